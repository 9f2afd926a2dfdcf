-- OFFERS
theorem FS_offer {z z10 : St} {N m : Nat} {b2 : Int32} (h : FS z) (t : TX z) (s : Same [] [25, 26, 27, 30] z z10) (g25 : ∀ k, (gF z10 25 k).toInt = if k = N then (m : Int) + 1 else (gF z 25 k).toInt) (hm : (m : Int) = (gF z 25 N).toInt) (hN : N < 5) (hm23 : m ≤ 23) (ok : OKp z N b2) (g26 : ∀ j, gF z10 26 j = if j = 24 * N + m then b2 else gF z 26 j) (g27 : ∀ i a : Nat, i < 5 → a < 24 → (i = N → a ≤ m) → (i ≠ N → (a : Int) < (gF z 25 i).toInt) → OKp z i (gF z10 27 (24 * i + a))) : FS z10 := by
  intro i a hi ha
  rw [g25] at ha
  have f25 : 0 ≤ (gF z 25 i).toInt ∧ (gF z 25 i).toInt ≤ 24 := t.2 25 i
  by_cases e : i = N
  · subst e
    rw [if_pos rfl] at ha
    refine ⟨OKp_same (z := z) ?_ s (by decide) (by decide) (by decide), OKp_same (g27 i a hi (by omega) (fun _ => by omega) (fun q => absurd rfl q)) s (by decide) (by decide) (by decide)⟩
    rw [g26]
    by_cases e2 : 24 * i + a = 24 * i + m
    · rw [if_pos e2]; exact ok
    · rw [if_neg e2]; exact (h i a hi (by omega)).1
  · rw [if_neg e] at ha
    refine ⟨OKp_same (z := z) ?_ s (by decide) (by decide) (by decide), OKp_same (g27 i a hi (by omega) (fun q => absurd q e) (fun _ => ha)) s (by decide) (by decide) (by decide)⟩
    rw [g26, if_neg (by omega)]
    exact (h i a hi ha).1
theorem k_X6_offer (b1 b2 : Int32) (b3 : Int64) (z : St) (P : St → Prop) (ht : TX z) (hfs : FS z) (h0 : 0 ≤ b1.toInt) (h1 : b1.toInt ≤ 4) (h2 : 0 ≤ b2.toInt ∧ b2.toInt ≤ 23) (h3 : (gF z 25 b1.toNatClampNeg).toInt ≤ 23) (ok : OKp z b1.toNatClampNeg b2) (hk : ∀ (z2 : St), TX z2 → Same [] [25, 26, 27, 30] z z2 → FS z2 → (∀ k : Nat, (gF z2 25 k).toInt = if k = b1.toNatClampNeg then (gF z 25 b1.toNatClampNeg).toInt + 1 else (gF z 25 k).toInt) → P z2) : wp_X6_offer b1 b2 b3 z P := by
  have cb := clampN h0
  have f25 : 0 ≤ (gF z 25 b1.toNatClampNeg).toInt ∧ (gF z 25 b1.toNatClampNeg).toInt ≤ 24 := ht.2 25 _
  have hv5 : vp_in b1 5 := vin rfl h0 (by omega)
  have hv30 : vp_in b1 30 := vin rfl h0 (by omega)
  unfold wp_X6_offer
  intro x1 ex1
  have i1 : x1.toInt = b1.toInt * 24 := by rw [ex1]; exact a_mul rfl rfl (by omega) (by omega)
  refine ⟨vin (a_add i1 rfl (by omega) (by omega)) (by omega) (by omega), ?_⟩
  intro z2 e2
  have t2 : TX z2 := by rw [e2]; exact Ty_wL ht
  have s2 : Same [] [25, 26, 27, 30] z z2 := Same.rf.l e2
  refine ⟨hv30, hv30, ?_⟩
  intro z3 e3
  have t3 : TX z3 := by rw [e3]; exact Ty_wR t2 trivial
  have s3 : Same [] [25, 26, 27, 30] z z3 := s2.r (by decide) e3
  have q25 : gF z3 25 = gF z 25 := by rw [e3, e2]; rfl
  have q26 : gF z3 26 = gF z 26 := by rw [e3, e2]; rfl
  have q27 : gF z3 27 = gF z 27 := by rw [e3, e2]; rfl
  have i2 : (x1 + gF z3 25 b1.toNatClampNeg).toInt = b1.toInt * 24 + (gF z 25 b1.toNatClampNeg).toInt := by rw [q25]; exact a_add i1 rfl (by omega) (by omega)
  refine ⟨hv5, vin i2 (by omega) (by omega), ?_⟩
  intro z4 e4
  have t4 : TX z4 := by rw [e4]; exact Ty_wR t3 h2
  have s4 : Same [] [25, 26, 27, 30] z z4 := s3.r (by decide) e4
  have r25 : gF z4 25 = gF z 25 := by rw [e4]; exact q25
  have r27 : gF z4 27 = gF z 27 := by rw [e4]; exact q27
  have c2 := clampN (x := x1 + gF z3 25 b1.toNatClampNeg) (by omega)
  have cm := clampN (x := gF z 25 b1.toNatClampNeg) (by omega)
  have r26 : ∀ j, gF z4 26 j = if j = 24 * b1.toNatClampNeg + (gF z 25 b1.toNatClampNeg).toNatClampNeg then b2 else gF z 26 j := by
    intro j
    rw [e4, gF_upd, q26, show (x1 + gF z3 25 b1.toNatClampNeg).toNatClampNeg = 24 * b1.toNatClampNeg + (gF z 25 b1.toNatClampNeg).toNatClampNeg by omega]
  refine ⟨hv5, ?_⟩
  intro K6 hK6
  have L : ∀ (n : Nat) (v5 : Int32) (z7 : St), TX z7 → Same [] [27] z4 z7 → 0 ≤ v5.toInt → v5.toInt ≤ (gF z 25 b1.toNatClampNeg).toInt → (∀ i a : Nat, i < 5 → a < 24 → (i = b1.toNatClampNeg → (a : Int) ≤ (gF z 25 b1.toNatClampNeg).toInt ∧ (a : Int) ≠ v5.toInt) → (i ≠ b1.toNatClampNeg → (a : Int) < (gF z 25 i).toInt) → OKp z i (gF z7 27 (24 * i + a))) → v5.toInt.toNat < n → K6 v5 z7 := by
    intro n
    induction n with
    | zero => intro v5 z7 _ _ _ _ _ q; omega
    | succ n ih =>
      intro v5 z7 t7 s7 g0 g1 g27 gm
      have cv := clampN g0
      have iv : (x1 + v5).toInt = b1.toInt * 24 + v5.toInt := a_add i1 rfl (by omega) (by omega)
      have cx := clampN (x := x1 + v5) (by omega)
      have hxv : vp_in (x1 + v5) 120 := vin iv (by omega) (by omega)
      refine hK6 v5 z7 ?_
      intro K8 hK8
      have hend : K8 := by
        refine hK8 ⟨hxv, ?_⟩
        intro z9 e9
        have t9 : TX z9 := by rw [e9]; exact Ty_wR t7 h2
        refine ⟨hv5, hv5, ?_⟩
        intro z10 e10
        have u25 : gF z9 25 = gF z 25 := by rw [e9]; exact (s7.2 25 (by decide)).trans r25
        have ia : (gF z9 25 b1.toNatClampNeg + (1 : Int32)).toInt = (gF z 25 b1.toNatClampNeg).toInt + 1 := by rw [u25]; exact a_add rfl rfl (by omega) (by omega)
        have t10 : TX z10 := by rw [e10]; exact Ty_wR t9 (show 0 ≤ (gF z9 25 b1.toNatClampNeg + (1 : Int32)).toInt ∧ (gF z9 25 b1.toNatClampNeg + (1 : Int32)).toInt ≤ 24 by omega)
        have s10 : Same [] [25, 26, 27, 30] z z10 := ((s4.tr s7 (by decide) (by decide)).r (by decide) e9).r (by decide) e10
        have w25 : ∀ k, (gF z10 25 k).toInt = if k = b1.toNatClampNeg then (gF z 25 b1.toNatClampNeg).toInt + 1 else (gF z 25 k).toInt := by
          intro k
          rw [e10, gF_upd]
          by_cases e : k = b1.toNatClampNeg
          · rw [if_pos e, if_pos e]; exact ia
          · rw [if_neg e, if_neg e, u25]
        refine hk z10 t10 s10 (FS_offer (N := b1.toNatClampNeg) (m := (gF z 25 b1.toNatClampNeg).toNatClampNeg) (b2 := b2) hfs ht s10 (fun k => by rw [cm]; exact w25 k) cm (by omega) (by omega) ok (fun j => ?_) (fun i a hi ha c1 c2 => ?_)) w25
        · rw [e10]; show gF z9 26 j = _; rw [e9]; show gF z7 26 j = _; rw [s7.2 26 (by decide)]; exact r26 j
        · rw [e10]; show OKp z i (gF z9 27 (24 * i + a)); rw [e9, gF_upd]
          by_cases e : 24 * i + a = (x1 + v5).toNatClampNeg
          · rw [if_pos e]
            have : i = b1.toNatClampNeg := by omega
            rw [this]; exact ok
          · rw [if_neg e]
            refine g27 i a hi ha (fun q => ⟨by have := c1 q; omega, fun q2 => e (by omega)⟩) c2
      refine ⟨fun _ => hend, fun c => ?_⟩
      have c' := i_nle (x := v5) (y := 0) rfl rfl c
      have e00 : (0 : Int32).toInt = 0 := rfl
      have iw : (x1 + v5 - (1 : Int32)).toInt = b1.toInt * 24 + v5.toInt - 1 := a_sub iv rfl (by omega) (by omega)
      have cw := clampN (x := x1 + v5 - (1 : Int32)) (by omega)
      have hw : vp_in (x1 + v5 - (1 : Int32)) 120 := vin iw (by omega) (by omega)
      have f27 : 0 ≤ (gF z7 27 (x1 + v5 - (1 : Int32)).toNatClampNeg).toInt ∧ (gF z7 27 (x1 + v5 - (1 : Int32)).toNatClampNeg).toInt ≤ 23 := t7.2 27 _
      refine ⟨hw, vin (a_add i1 rfl (by omega) (by omega)) (by omega) (by omega), fun _ => hend, fun _ => ⟨hw, hxv, ?_⟩⟩
      intro z13 e13 x14 e14
      have i14 : x14.toInt = v5.toInt - 1 := by rw [e14]; exact a_add rfl (show (-1 : Int32).toInt = -1 from rfl) (by omega) (by omega)
      refine ih x14 z13 (by rw [e13]; exact Ty_wR t7 f27) (s7.r (by decide) e13) (by omega) (by omega) (fun i a hi ha c1 c2 => ?_) (by omega)
      rw [e13, gF_upd]
      by_cases e : 24 * i + a = (x1 + v5).toNatClampNeg
      · rw [if_pos e]
        have hi2 : i = b1.toNatClampNeg := by omega
        have := g27 b1.toNatClampNeg (v5.toNatClampNeg - 1) (by omega) (by omega) (fun _ => by omega) (fun q => absurd rfl q)
        rw [show (x1 + v5 - (1 : Int32)).toNatClampNeg = 24 * b1.toNatClampNeg + (v5.toNatClampNeg - 1) by omega, hi2]
        exact this
      · rw [if_neg e]
        exact g27 i a hi ha (fun q => ⟨(c1 q).1, fun q2 => e (by omega)⟩) c2
  intro x15 e15
  have i15 : x15.toInt = (gF z 25 b1.toNatClampNeg).toInt := by rw [e15, r25]
  refine L (x15.toInt.toNat + 1) x15 z4 t4 Same.rf (by omega) (by omega) (fun i a hi ha c1 c2 => ?_) (by omega)
  rw [r27]
  by_cases e : i = b1.toNatClampNeg
  · have := c1 e
    exact (hfs i a hi (by rw [e]; omega)).2
  · exact (hfs i a hi (c2 e)).2
theorem k_X2_offerHours (b1 : Int32) (z : St) (P : St → Prop) (ht : TX z) (hrx : RX z) (hfs : FS z) (h0 : 0 ≤ b1.toInt) (h1 : b1.toInt ≤ 4) (hz : (gF z 25 b1.toNatClampNeg).toInt = 0) (hk : ∀ (z2 : St), TX z2 → Same [] [25, 26, 27, 30] z z2 → FS z2 → (∀ k : Nat, k ≠ b1.toNatClampNeg → (gF z2 25 k).toInt = (gF z 25 k).toInt) → P z2) : wp_X2_offerHours b1 z P := by
  have cb := clampN h0
  unfold wp_X2_offerHours
  refine ⟨vin rfl h0 (by omega), ?_⟩
  intro x1 ex1
  have f23 : 0 ≤ x1.toInt ∧ x1.toInt ≤ 15 := by rw [ex1]; exact ht.2 23 _
  have f15 : 0 ≤ (gF z 15 x1.toNatClampNeg).toInt ∧ (gF z 15 x1.toNatClampNeg).toInt ≤ 167 := ht.2 15 _
  have f16 : 0 ≤ (gF z 16 x1.toNatClampNeg).toInt ∧ (gF z 16 x1.toNatClampNeg).toInt ≤ 167 := ht.2 16 _
  have hw := hrx.2.1 x1.toNatClampNeg
  have hv : vp_in x1 16 := vin rfl (by omega) (by omega)
  refine ⟨hv, ?_⟩
  intro K3 hK3
  have L : ∀ (n : Nat) (v2 : Int32) (z4 : St), TX z4 → Same [] [25, 26, 27, 30] z z4 → FS z4 → (∀ k : Nat, k ≠ b1.toNatClampNeg → (gF z4 25 k).toInt = (gF z 25 k).toInt) → (gF z 15 x1.toNatClampNeg).toInt ≤ v2.toInt → v2.toInt ≤ 168 → (gF z4 25 b1.toNatClampNeg).toInt ≤ v2.toInt - (gF z 15 x1.toNatClampNeg).toInt → (168 - v2.toInt).toNat < n → K3 v2 z4 := by
    intro n
    induction n with
    | zero => intro v2 z4 _ _ _ _ _ _ _ q; omega
    | succ n ih =>
      intro v2 z4 t4 s4 fs4 k4 g0 g1 g2 gm
      have r15 : gF z4 15 = gF z 15 := s4.2 15 (by decide)
      have r16 : gF z4 16 = gF z 16 := s4.2 16 (by decide)
      have r17 : gF z4 17 = gF z 17 := s4.2 17 (by decide)
      have r23 : gF z4 23 = gF z 23 := s4.2 23 (by decide)
      refine hK3 v2 z4 ⟨hv, fun _ => hk z4 t4 s4 fs4 k4, fun c => ?_⟩
      have c' := i_nlt rfl rfl c
      rw [r16] at c'
      refine s_X2_mayBegin _ _ _ _ t4 f23 (fun r7 hr => ?_)
      intro K8 hK8
      have hnext : ∀ z9 : St, TX z9 → Same [] [25, 26, 27, 30] z z9 → FS z9 → (∀ k : Nat, k ≠ b1.toNatClampNeg → (gF z9 25 k).toInt = (gF z 25 k).toInt) → (gF z9 25 b1.toNatClampNeg).toInt ≤ v2.toInt + 1 - (gF z 15 x1.toNatClampNeg).toInt → K8 z9 := by
        intro z9 t9 s9 fs9 k9 g9
        refine hK8 z9 (fun x10 e10 => ?_)
        have i10 : x10.toInt = v2.toInt + 1 := by rw [e10]; exact a_add rfl rfl (by omega) (by omega)
        exact ih x10 z9 t9 s9 fs9 k9 (by omega) (by omega) (by omega) (by omega)
      refine ⟨fun _ => hnext z4 t4 s4 fs4 k4 (by omega), fun c7 => ⟨hv, ?_⟩⟩
      rcases hr with ⟨_, hr⟩ | ⟨hr, _⟩
      · rw [r15, r16, r17] at hr
        refine s_X1_costFrom_5 _ _ _ _ t4 f23 (by omega) (fun r13 _ => ?_)
        have ip : (v2 - gF z4 15 x1.toNatClampNeg).toInt = v2.toInt - (gF z 15 x1.toNatClampNeg).toInt := by rw [r15]; exact a_sub rfl rfl (by omega) (by omega)
        refine k_X6_offer _ _ _ _ _ t4 fs4 h0 h1 (by omega) (by omega) ?_ (fun z14 t14 s14 fs14 k14 => ?_)
        · unfold OKp
          rw [r15, r17, r23, ← ex1]
          rw [r15] at ip
          omega
        · refine hnext z14 t14 (s4.tr s14 (by decide) (by decide)) fs14 (fun k hk' => by rw [k14, if_neg hk']; exact k4 k hk') ?_
          rw [k14, if_pos rfl]; omega
      · exact absurd hr c7
  intro x16 e16
  have i16 : x16.toInt = (gF z 15 x1.toNatClampNeg).toInt := by rw [e16]
  exact L ((168 - x16.toInt).toNat + 1) x16 z ht Same.rf hfs (fun _ _ => rfl) (by omega) (by omega) (by omega) (by omega)
