-- THE LEAST THAT A JOB CAN COST within its places
noncomputable def lof (z : St) (i : Nat) (b2 : Int32) : Nat → Nat → Int64
  | 0, _ => 1000000000000000000
  | f + 1, k => pIf (bt b2 (gF z 27 (24 * i + k))) (gG z 28 (24 * i + (gF z 27 (24 * i + k)).toNatClampNeg)) (lof z i b2 f (k + 1))
noncomputable def loV (z : St) (i : Nat) (b2 : Int32) : Int64 := lof z i b2 (gF z 25 i).toNatClampNeg 0
theorem v_X6_leastOf (b1 b2 : Int32) (z : St) (P : Int64 → Prop) (i : Nat) (ht : TX z) (hi : b1 = nI i) (h5 : i < 5) (hk : P (loV z i b2)) : wp_X6_leastOf b1 b2 z P := by
  have i1 : b1.toInt = (i : Int) := by rw [hi, nI_toInt (by omega)]
  have c1 : b1.toNatClampNeg = i := by rw [hi, nI_clamp (by omega)]
  have f25 : 0 ≤ (gF z 25 i).toInt ∧ (gF z 25 i).toInt ≤ 24 := ht.2 25 _
  have c25 := clampN f25.1
  have m1 : (b1 * (24 : Int32)).toInt = (i : Int) * 24 := a_mul i1 (show (24 : Int32).toInt = 24 from rfl) (by omega) (by omega)
  have hv : vp_in b1 5 := vin i1 (by omega) (by omega)
  unfold wp_X6_leastOf
  rw [c1]
  intro K2 hK2
  have LL : ∀ (f : Nat) (v1 : Int32), 0 ≤ v1.toInt → v1.toInt + (f : Int) = (gF z 25 i).toInt → P (lof z i b2 f v1.toNatClampNeg) → K2 v1 := by
    intro f
    induction f with
    | zero =>
      intro v1 g0 g1 hp
      refine hK2 v1 ⟨hv, fun _ => hp, fun c => absurd (i_nle rfl rfl c) (by omega)⟩
    | succ f ih =>
      intro v1 g0 g1 hp
      have cv := clampN g0
      have ix : (b1 * (24 : Int32) + v1).toInt = (i : Int) * 24 + v1.toInt := a_add m1 rfl (by omega) (by omega)
      have cx := clampN (x := b1 * (24 : Int32) + v1) (by omega)
      have ex : (b1 * (24 : Int32) + v1).toNatClampNeg = 24 * i + v1.toNatClampNeg := by omega
      refine hK2 v1 ⟨hv, fun c => absurd (i_le rfl rfl c) (by omega), fun c => ⟨vin ix (by omega) (by omega), ?_⟩⟩
      rw [ex]
      intro x4 e4
      have f27 : 0 ≤ x4.toInt ∧ x4.toInt ≤ 23 := by rw [e4]; exact ht.2 27 _
      have c4 := clampN f27.1
      have iy : (b1 * (24 : Int32) + x4).toInt = (i : Int) * 24 + x4.toInt := a_add m1 rfl (by omega) (by omega)
      have cy := clampN (x := b1 * (24 : Int32) + x4) (by omega)
      have ey : (b1 * (24 : Int32) + x4).toNatClampNeg = 24 * i + x4.toNatClampNeg := by omega
      have hp' : P (pIf (bt b2 x4) (gG z 28 (24 * i + x4.toNatClampNeg)) (lof z i b2 f (v1.toNatClampNeg + 1))) := by rw [e4]; exact hp
      refine ⟨fun cb => ?_, fun cb => ⟨vin iy (by omega) (by omega), ?_⟩⟩
      · intro x6 e6
        have i6 : x6.toInt = v1.toInt + 1 := by rw [e6]; exact a_add rfl rfl (by omega) (by omega)
        have c6 := clampN (x := x6) (by omega)
        refine ih x6 (by omega) (by omega) ?_
        rw [pIf_f (show ¬ bt b2 x4 from fun q => q cb)] at hp'
        rw [show x6.toNatClampNeg = v1.toNatClampNeg + 1 by omega]; exact hp'
      · rw [pIf_t (show bt b2 x4 from cb)] at hp'
        rw [ey]; exact hp'
  exact LL (gF z 25 i).toNatClampNeg 0 (by decide) (by have : (0 : Int32).toInt = 0 := rfl; omega) hk
theorem loV_same {z z2 : St} {i : Nat} {b2 : Int32} {I F : List Nat} (s : Same I F z z2) (h25 : 25 ∉ F) (h27 : 27 ∉ F) (h28 : gG z2 28 = gG z 28) : loV z2 i b2 = loV z i b2 := by
  have e : ∀ f k, lof z2 i b2 f k = lof z i b2 f k := by
    intro f
    induction f with
    | zero => intro k; rfl
    | succ f ih =>
      intro k
      show pIf _ _ _ = pIf _ _ _
      rw [s.2 27 h27, h28, ih]
  unfold loV
  rw [s.2 25 h25, e]
/-- it costs no less than the least, whatever place of b2 a job takes -/
theorem loV_le {z zm : St} {st bg : Nat → Int32} {oj : Nat → Nat} {i : Nat} {b2 : Int32} (sd : SDr z zm st bg oj i) (hj : ((oj i : Nat) : Int) < (gI zm 12).toInt) (bd : ∀ j t : Nat, (j : Int) < (gI zm 12).toInt → -200000000 ≤ (ctM zm j t).toInt ∧ (ctM zm j t).toInt ≤ 200000000) : (∀ p, p < 24 → OFF zm st bg oj i p → bt b2 (nI p) → (loV z i b2).toInt ≤ (ctM zm (oj i) (Fi zm oj i + p)).toInt) ∧ -200000000 ≤ (loV z i b2).toInt ∧ (loV z i b2).toInt ≤ 1000000000000000000 := by
  obtain ⟨a0, a1, a2, a3, a4, a5, a6, a7⟩ := sd
  have cst : ∀ a : Nat, (a : Int) < (gF z 25 i).toInt → ∃ p, p < 24 ∧ gF z 27 (24 * i + a) = nI p ∧ gG z 28 (24 * i + (gF z 27 (24 * i + a)).toNatClampNeg) = ctM zm (oj i) (Fi zm oj i + p) := by
    intro a ha
    obtain ⟨p, h1, h2, h3⟩ := a4 a ha
    exact ⟨p, h1, h3, by rw [h3, nI_clamp (by omega)]; exact a7 p h1 h2⟩
  have main : ∀ f k, ((k + f : Nat) : Int) ≤ (gF z 25 i).toInt → (∀ b : Nat, k ≤ b → b < k + f → bt b2 (gF z 27 (24 * i + b)) → (lof z i b2 f k).toInt ≤ (gG z 28 (24 * i + (gF z 27 (24 * i + b)).toNatClampNeg)).toInt) ∧ -200000000 ≤ (lof z i b2 f k).toInt ∧ (lof z i b2 f k).toInt ≤ 1000000000000000000 := by
    intro f
    induction f with
    | zero =>
      intro k _
      refine ⟨fun b h1 h2 => by omega, ?_⟩
      show -200000000 ≤ (1000000000000000000 : Int64).toInt ∧ (1000000000000000000 : Int64).toInt ≤ 1000000000000000000
      decide
    | succ f ih =>
      intro k hk
      have r := ih (k + 1) (by omega)
      by_cases c : bt b2 (gF z 27 (24 * i + k))
      · have e : lof z i b2 (f + 1) k = gG z 28 (24 * i + (gF z 27 (24 * i + k)).toNatClampNeg) := pIf_t c
        rw [e]
        obtain ⟨p, h1, h2, h3⟩ := cst k (by omega)
        have hb := bd (oj i) (Fi zm oj i + p) hj
        refine ⟨fun b g1 g2 _ => ?_, by rw [h3]; omega, by rw [h3]; omega⟩
        by_cases eb : b = k
        · rw [eb]; exact Int.le_refl _
        · exact a6 k b (by omega) (by omega)
      · have e : lof z i b2 (f + 1) k = lof z i b2 f (k + 1) := pIf_f c
        rw [e]
        refine ⟨fun b g1 g2 gb => ?_, r.2⟩
        by_cases eb : b = k
        · rw [eb] at gb; exact absurd gb c
        · exact r.1 b (by omega) (by omega) gb
  by_cases hneg : 0 ≤ (gF z 25 i).toInt
  · have c25 := clampN hneg
    have m := main (gF z 25 i).toNatClampNeg 0 (by omega)
    refine ⟨fun p hp ho hb => ?_, m.2⟩
    obtain ⟨a, h1, h2⟩ := a5 p hp ho
    have := m.1 a (by omega) (by omega) (by rw [h2]; exact hb)
    rw [h2, nI_clamp (by omega), a7 p hp ho] at this
    exact this
  · have e : (gF z 25 i).toNatClampNeg = 0 := by
      show (gF z 25 i).toInt.toNat = 0
      omega
    refine ⟨fun p hp ho hb => ?_, ?_⟩
    · obtain ⟨a, h1, h2⟩ := a5 p hp ho
      omega
    · unfold loV
      rw [e]
      show -200000000 ≤ (1000000000000000000 : Int64).toInt ∧ (1000000000000000000 : Int64).toInt ≤ 1000000000000000000
      decide
