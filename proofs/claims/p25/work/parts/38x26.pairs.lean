-- PAIRS: what the class says of two jobs
theorem CP_As {zx zm : St} {st bg : Nat → Int32} {t : Nat} (tm : TM zm) (cp : CP zx zm st bg) (ht : t < 168) : Ax zx t = As zm st bg t := by
  have pe := CP_pe tm cp
  unfold Ax As
  rw [cp.1.2.2.2.1 (t % 24) (by omega), pe.2 t ht]
theorem CP_Hs {zx zm : St} {st bg : Nat → Int32} {h t : Nat} (tm : TM zm) (cp : CP zx zm st bg) (hh : h < 4) (ht : t < 168) : Fx zx h t = Hs zm st bg h t := by
  have pe := CP_pe tm cp
  unfold Fx Hs
  rw [cp.1.2.2.1.2, pe.1 h t hh ht]
theorem v_X0_allDraw (b1 : Int32) (z : St) (P : Int32 → Prop) (h1 : 0 ≤ b1.toInt ∧ b1.toInt ≤ 167) (hk : P (Ax z b1.toNatClampNeg)) : wp_X0_allDraw b1 z P := by
  have c2 := clampN h1.1
  have ir : (b1 - b1 / (24 : Int32) * (24 : Int32)).toInt = b1.toInt % 24 := a_rem rfl h1.1 rfl
  have cr := clampN (x := b1 - b1 / (24 : Int32) * (24 : Int32)) (by omega)
  have er : (b1 - b1 / (24 : Int32) * (24 : Int32)).toNatClampNeg = b1.toNatClampNeg % 24 := by omega
  unfold Ax at hk
  unfold wp_X0_allDraw
  refine ⟨vin ir (by omega) (by omega), vin rfl h1.1 (by omega), ?_⟩
  rw [er]; exact hk
theorem v_X0_draws (b1 b2 : Int32) (z : St) (P : Int32 → Prop) (h0 : 0 ≤ b1.toInt ∧ b1.toInt ≤ 3) (h1 : 0 ≤ b2.toInt ∧ b2.toInt ≤ 167) (hk : P (Fx z b1.toNatClampNeg b2.toNatClampNeg)) : wp_X0_draws b1 b2 z P := by
  have c1 := clampN h0.1
  have c2 := clampN h1.1
  have ir : (b2 - b2 / (24 : Int32) * (24 : Int32)).toInt = b2.toInt % 24 := a_rem rfl h1.1 rfl
  have m24 : (b1 * (24 : Int32)).toInt = b1.toInt * 24 := a_mul rfl (show (24 : Int32).toInt = 24 from rfl) (by omega) (by omega)
  have m168 : (b1 * (168 : Int32)).toInt = b1.toInt * 168 := a_mul rfl (show (168 : Int32).toInt = 168 from rfl) (by omega) (by omega)
  have ia : (b1 * (24 : Int32) + (b2 - b2 / (24 : Int32) * (24 : Int32))).toInt = b1.toInt * 24 + b2.toInt % 24 := a_add m24 ir (by omega) (by omega)
  have ib : (b1 * (168 : Int32) + b2).toInt = b1.toInt * 168 + b2.toInt := a_add m168 rfl (by omega) (by omega)
  have ca := clampN (x := b1 * (24 : Int32) + (b2 - b2 / (24 : Int32) * (24 : Int32))) (by omega)
  have cb := clampN (x := b1 * (168 : Int32) + b2) (by omega)
  have ea : (b1 * (24 : Int32) + (b2 - b2 / (24 : Int32) * (24 : Int32))).toNatClampNeg = 24 * b1.toNatClampNeg + b2.toNatClampNeg % 24 := by omega
  have eb : (b1 * (168 : Int32) + b2).toNatClampNeg = 168 * b1.toNatClampNeg + b2.toNatClampNeg := by omega
  unfold Fx at hk
  unfold wp_X0_draws
  refine ⟨vin ia (by omega) (by omega), vin ib (by omega) (by omega), ?_⟩
  rw [ea, eb]; exact hk
theorem v_X6_areBorne (b1 b2 b3 b4 : Int32) (z zm : St) (P : Int32 → Prop) (st bg : Nat → Int32) (ht : TX z) (tm : TM zm) (bb : BB zm) (pb : PLB zm st bg) (cp : CP z zm st bg) (h1 : 0 ≤ b1.toInt ∧ b1.toInt < (gI zm 12).toInt) (h3 : 0 ≤ b3.toInt ∧ b3.toInt < (gI zm 12).toInt) (h2 : 0 ≤ b2.toInt ∧ b2.toInt ≤ 167 ∧ b2.toInt + (gF zm 9 b1.toNatClampNeg).toInt ≤ 168) (h4 : 0 ≤ b4.toInt ∧ b4.toInt ≤ 167 ∧ b4.toInt + (gF zm 9 b3.toNatClampNeg).toInt ≤ 168) (hk1 : AB zm st bg b1.toNatClampNeg b3.toNatClampNeg b2.toInt b4.toInt → P 1) (hk0 : ¬ AB zm st bg b1.toNatClampNeg b3.toNatClampNeg b2.toInt b4.toInt → P 0) : wp_X6_areBorne b1 b2 b3 b4 z P := by
  have f12 : 0 ≤ (gI zm 12).toInt ∧ (gI zm 12).toInt ≤ 16 := tm.1 12
  have c1 := clampN h1.1
  have c3 := clampN h3.1
  have f91 : 0 ≤ (gF zm 9 b1.toNatClampNeg).toInt ∧ (gF zm 9 b1.toNatClampNeg).toInt ≤ 4 := tm.2 9 _
  have f93 : 0 ≤ (gF zm 9 b3.toNatClampNeg).toInt ∧ (gF zm 9 b3.toNatClampNeg).toInt ≤ 4 := tm.2 9 _
  have f61 : 0 ≤ (gF zm 6 b1.toNatClampNeg).toInt ∧ (gF zm 6 b1.toNatClampNeg).toInt ≤ 3 := tm.2 6 _
  have c61 := clampN f61.1
  obtain ⟨q14, _, _, q17, q18⟩ := cp.1.2.1
  have q8 := cp.1.2.2.1.1
  have q706 := cp.1.1.2.2.1
  have hv1 : vp_in b1 16 := vin rfl h1.1 (by omega)
  have hv3 : vp_in b3 16 := vin rfl h3.1 (by omega)
  unfold wp_X6_areBorne
  rw [q17, q14, q18, q8, q706]
  intro x1 e1
  have i1 := a_max (p := b2.toInt) (q := b4.toInt) rfl rfl e1
  refine ⟨hv1, hv3, ?_⟩
  intro x2 e2
  have i2 := a_min (a_add (p := b2.toInt) (q := (gF zm 9 b1.toNatClampNeg).toInt) rfl rfl (by omega) (by omega)) (a_add (p := b4.toInt) (q := (gF zm 9 b3.toNatClampNeg).toInt) rfl rfl (by omega) (by omega)) e2
  refine ⟨hv1, ?_⟩
  intro x3 e3
  intro K5 hK5
  have LL : ∀ (n : Nat) (v4 : Int32), x1.toInt ≤ v4.toInt → v4.toInt ≤ 168 → (∀ t : Nat, (t : Int) < v4.toInt → b2.toInt ≤ (t : Int) → b4.toInt ≤ (t : Int) → (t : Int) < b2.toInt + (gF zm 9 b1.toNatClampNeg).toInt → (t : Int) < b4.toInt + (gF zm 9 b3.toNatClampNeg).toInt → (As zm st bg t).toInt + ((gF zm 10 (4 * b1.toNatClampNeg + ((t : Int) - b2.toInt).toNat)).toInt + (gF zm 10 (4 * b3.toNatClampNeg + ((t : Int) - b4.toInt).toNat)).toInt) ≤ (gI zm 11).toInt ∧ (gF zm 6 b1.toNatClampNeg = gF zm 6 b3.toNatClampNeg → (Hs zm st bg (gF zm 6 b3.toNatClampNeg).toNatClampNeg t).toInt + ((gF zm 10 (4 * b1.toNatClampNeg + ((t : Int) - b2.toInt).toNat)).toInt + (gF zm 10 (4 * b3.toNatClampNeg + ((t : Int) - b4.toInt).toNat)).toInt) ≤ (gF zm 4 (gF zm 6 b3.toNatClampNeg).toNatClampNeg).toInt)) → (168 - v4.toInt).toNat < n → K5 v4 := by
    intro n
    induction n with
    | zero => intro v4 _ _ _ q; omega
    | succ n ih =>
      intro v4 g0 g1 hall gm
      have cv := clampN (x := v4) (by omega)
      refine hK5 v4 ⟨fun c => hk1 (fun t a1 a2 a3 a4 => hall t (by have := i_le rfl rfl c; omega) a1 a2 a3 a4), fun c => ?_⟩
      have c' := i_nle rfl rfl c
      have m1 : (b1 * (4 : Int32)).toInt = b1.toInt * 4 := a_mul rfl (show (4 : Int32).toInt = 4 from rfl) (by omega) (by omega)
      have m3 : (b3 * (4 : Int32)).toInt = b3.toInt * 4 := a_mul rfl (show (4 : Int32).toInt = 4 from rfl) (by omega) (by omega)
      have ia : (b1 * (4 : Int32) + v4 - b2).toInt = b1.toInt * 4 + v4.toInt - b2.toInt := a_sub (a_add m1 rfl (by omega) (by omega)) rfl (by omega) (by omega)
      have ib : (b3 * (4 : Int32) + v4 - b4).toInt = b3.toInt * 4 + v4.toInt - b4.toInt := a_sub (a_add m3 rfl (by omega) (by omega)) rfl (by omega) (by omega)
      have ca := clampN (x := b1 * (4 : Int32) + v4 - b2) (by omega)
      have cb := clampN (x := b3 * (4 : Int32) + v4 - b4) (by omega)
      have ea : (b1 * (4 : Int32) + v4 - b2).toNatClampNeg = 4 * b1.toNatClampNeg + ((v4.toNatClampNeg : Int) - b2.toInt).toNat := by omega
      have eb : (b3 * (4 : Int32) + v4 - b4).toNatClampNeg = 4 * b3.toNatClampNeg + ((v4.toNatClampNeg : Int) - b4.toInt).toNat := by omega
      refine ⟨vin ia (by omega) (by omega), vin ib (by omega) (by omega), ?_⟩
      rw [ea, eb]
      have n1 := bb.2.1 b1.toNatClampNeg ((v4.toNatClampNeg : Int) - b2.toInt).toNat (by omega) (by omega)
      have n3 := bb.2.1 b3.toNatClampNeg ((v4.toNatClampNeg : Int) - b4.toInt).toNat (by omega) (by omega)
      intro x7 e7
      have i7 : x7.toInt = (gF zm 10 (4 * b1.toNatClampNeg + ((v4.toNatClampNeg : Int) - b2.toInt).toNat)).toInt + (gF zm 10 (4 * b3.toNatClampNeg + ((v4.toNatClampNeg : Int) - b4.toInt).toNat)).toInt := by rw [e7]; exact a_add rfl rfl (by omega) (by omega)
      have hA := As_int tm bb pb (show v4.toNatClampNeg < 168 by omega)
      have hH := Hs_int (h := (gF zm 6 b1.toNatClampNeg).toNatClampNeg) tm bb pb (show v4.toNatClampNeg < 168 by omega)
      have bad : ¬ ((As zm st bg v4.toNatClampNeg).toInt + x7.toInt ≤ (gI zm 11).toInt ∧ (gF zm 6 b1.toNatClampNeg = gF zm 6 b3.toNatClampNeg → (Hs zm st bg (gF zm 6 b3.toNatClampNeg).toNatClampNeg v4.toNatClampNeg).toInt + x7.toInt ≤ (gF zm 4 (gF zm 6 b3.toNatClampNeg).toNatClampNeg).toInt)) → P 0 := by
        intro hn
        refine hk0 (fun q => hn ?_)
        rw [i7]
        exact q v4.toNatClampNeg (by omega) (by omega) (by omega) (by omega)
      refine v_X0_allDraw _ _ _ (by omega) ?_
      rw [CP_As tm cp (by omega)]
      have is : (As zm st bg v4.toNatClampNeg + x7).toInt = (As zm st bg v4.toNatClampNeg).toInt + x7.toInt := a_add rfl rfl (by omega) (by omega)
      refine ⟨fun ca1 => ⟨hv3, ?_⟩, fun ca1 => bad (fun q => by have := i_nle is rfl ca1; omega)⟩
      have d1 := i_le is rfl ca1
      intro K11 hK11
      have next : (gF zm 6 b1.toNatClampNeg = gF zm 6 b3.toNatClampNeg → (Hs zm st bg (gF zm 6 b3.toNatClampNeg).toNatClampNeg v4.toNatClampNeg).toInt + x7.toInt ≤ (gF zm 4 (gF zm 6 b3.toNatClampNeg).toNatClampNeg).toInt) → K11 := by
        intro hq
        refine hK11 (fun x12 e12 => ?_)
        have i12 : x12.toInt = v4.toInt + 1 := by rw [e12]; exact a_add rfl rfl (by omega) (by omega)
        refine ih x12 (by omega) (by omega) (fun t a0 a1 a2 a3 a4 => ?_) (by omega)
        by_cases e : t = v4.toNatClampNeg
        · rw [e, ← i7]; exact ⟨d1, hq⟩
        · exact hall t (by omega) a1 a2 a3 a4
      rw [e3]
      refine ⟨fun ce => next (fun q => absurd q ce), fun ce => ?_⟩
      refine v_X0_draws _ _ _ _ f61 (by omega) ⟨vin rfl f61.1 (by omega), ?_⟩
      rw [CP_Hs tm cp (by omega) (by omega)]
      have it : (Hs zm st bg (gF zm 6 b1.toNatClampNeg).toNatClampNeg v4.toNatClampNeg + x7).toInt = (Hs zm st bg (gF zm 6 b1.toNatClampNeg).toNatClampNeg v4.toNatClampNeg).toInt + x7.toInt := a_add rfl rfl (by omega) (by omega)
      refine ⟨fun cf => next (fun _ => ?_), fun cf => bad (fun q => ?_)⟩
      · have := i_le it rfl cf
        rw [← ce]; exact this
      · have h5 := q.2 ce
        have := i_nle it rfl cf
        rw [← ce] at h5
        omega
  exact LL _ x1 (Int.le_refl _) (by omega) (fun t a0 a1 a2 a3 a4 => by omega) (Nat.lt_succ_self _)
-- the rows of the search, as a whole
def pl (zm : St) (oj : Nat → Nat) (i p : Nat) : Int := ((Fi zm oj i + p : Nat) : Int)
/-- the search's jobs and offers stand in the class's rows -/
def SD (z zm : St) (st bg : Nat → Int32) (oj : Nat → Nat) (n : Nat) : Prop := (gI z 2213).toInt = (n : Int) ∧ (∀ i, i < n → gF z 23 i = nI (oj i)) ∧ ∀ i, i < n → SDi z zm st bg oj i 24
/-- pair i, j is matched: fit holds of the bits of both -/
def FT (z : St) (i j : Nat) (M : Nat → Nat → Prop) : Prop := ∀ p q, p < 24 → q < 24 → (bt (gF z 29 ((24 * i + p) * 5 + j)) (nI q) ↔ M p q) ∧ (bt (gF z 29 ((24 * j + q) * 5 + i)) (nI p) ↔ M p q)
def MP (zm : St) (st bg : Nat → Int32) (oj : Nat → Nat) (i j p q : Nat) : Prop := OFF zm st bg oj i p ∧ OFF zm st bg oj j q ∧ CMP zm st bg (oj i) (oj j) (pl zm oj i p) (pl zm oj j q)
theorem v_isBefore2 (b1 b2 : Int32) (z : St) (P : Int32 → Prop) (h0 : 0 ≤ b1.toInt ∧ b1.toInt ≤ 15) (h1 : 0 ≤ b2.toInt) (hk : ∀ r : Int32, (r = 0 ↔ ¬ Bx z b1.toNatClampNeg b2.toNatClampNeg) → P r) : wp_X5_isBefore_c34 b1 b2 z P :=
  v_isBefore b1 b2 z P h0 h1 (fun h => hk 1 ⟨fun q => absurd q (by decide), fun q => absurd h q⟩) (fun h => hk 0 ⟨fun _ => h, fun _ => rfl⟩)
theorem PX_mv {z z2 : St} {F : List Nat} (h : PX z) (s : Same [] F z z2) (h10 : 10 ∉ F := by decide) (h12 : 12 ∉ F := by decide) (h14 : 14 ∉ F := by decide) (h17 : 17 ∉ F := by decide) (h18 : 18 ∉ F := by decide) (h19 : 19 ∉ F := by decide) (h20 : 20 ∉ F := by decide) : PX z2 := by
  unfold PX PE
  rw [s.1 1308 (by decide), s.2 10 h10, s.2 12 h12, s.2 14 h14, s.2 17 h17, s.2 18 h18, s.2 19 h19, s.2 20 h20]
  exact h
theorem OFF_b {zm : St} {st bg : Nat → Int32} {oj : Nat → Nat} {i p : Nat} (tm : TM zm) (h : OFF zm st bg oj i p) : 0 ≤ pl zm oj i p ∧ pl zm oj i p ≤ 167 ∧ pl zm oj i p + (gF zm 9 (oj i)).toInt ≤ 168 := by
  have f8 : 0 ≤ (gF zm 8 (oj i)).toInt ∧ (gF zm 8 (oj i)).toInt ≤ 167 := tm.2 8 _
  unfold pl
  have a := h.2.2.1
  have b := h.2.2.2.1
  omega
theorem FT_iff {z : St} {i j : Nat} {M M' : Nat → Nat → Prop} (h : FT z i j M) (e : ∀ p q, p < 24 → q < 24 → (M p q ↔ M' p q)) : FT z i j M' := fun p q hp hq => ⟨(h p q hp hq).1.trans (e p q hp hq), (h p q hp hq).2.trans (e p q hp hq)⟩
/-- both bits of a pair are set -/
theorem FT_set {z z1 z2 : St} {i j p0 q0 : Nat} {M : Nat → Nat → Prop} (h : FT z i j M) (hi : i < 5) (hj : j < 5) (hij : i ≠ j) (hp0 : p0 < 24) (hq0 : q0 < 24) (e1 : z1 = wR z 29 (upd (gF z 29) ((24 * i + p0) * 5 + j) (gF z 29 ((24 * i + p0) * 5 + j) ||| ((1 : Int32) <<< (nI q0 &&& 31))))) (e2 : z2 = wR z1 29 (upd (gF z1 29) ((24 * j + q0) * 5 + i) (gF z1 29 ((24 * j + q0) * 5 + i) ||| ((1 : Int32) <<< (nI p0 &&& 31))))) : FT z2 i j (fun p q => M p q ∨ (p = p0 ∧ q = q0)) ∧ ∀ x, x ≠ (24 * i + p0) * 5 + j → x ≠ (24 * j + q0) * 5 + i → gF z2 29 x = gF z 29 x := by
  have r1 : ∀ x, gF z1 29 x = if x = (24 * i + p0) * 5 + j then gF z 29 ((24 * i + p0) * 5 + j) ||| ((1 : Int32) <<< (nI q0 &&& 31)) else gF z 29 x := fun x => by rw [e1, gF_upd]
  have r2 : ∀ x, gF z2 29 x = if x = (24 * j + q0) * 5 + i then gF z1 29 ((24 * j + q0) * 5 + i) ||| ((1 : Int32) <<< (nI p0 &&& 31)) else gF z1 29 x := fun x => by rw [e2, gF_upd]
  have r1' : gF z1 29 ((24 * j + q0) * 5 + i) = gF z 29 ((24 * j + q0) * 5 + i) := by rw [r1, if_neg (by omega)]
  refine ⟨fun p q hp hq => ⟨?_, ?_⟩, fun x h1 h2 => by rw [r2, if_neg h2, r1, if_neg h1]⟩
  · rw [r2, if_neg (by omega), r1]
    by_cases e : p = p0
    · subst e
      rw [if_pos rfl, bt_set (by omega) (by omega), (h p q hp hq).1]
      exact ⟨fun x => x.elim Or.inl (fun y => Or.inr ⟨rfl, y⟩), fun x => x.elim Or.inl (fun y => Or.inr y.2)⟩
    · rw [if_neg (by omega), (h p q hp hq).1]
      exact ⟨Or.inl, fun x => x.elim id (fun y => absurd y.1 e)⟩
  · rw [r2]
    by_cases e : q = q0
    · subst e
      rw [if_pos rfl, r1', bt_set (by omega) (by omega), (h p q hp hq).2]
      exact ⟨fun x => x.elim Or.inl (fun y => Or.inr ⟨y, rfl⟩), fun x => x.elim Or.inl (fun y => Or.inr y.1)⟩
    · rw [if_neg (by omega), r1, if_neg (by omega), (h p q hp hq).2]
      exact ⟨Or.inl, fun x => x.elim id (fun y => absurd y.2 e)⟩
/-- place p of job i has been come by -/
def DN (z : St) (i : Nat) (a : Int) (p : Nat) : Prop := ∃ a' : Nat, (a' : Int) < a ∧ gF z 26 (24 * i + a') = nI p
def IQ (z zm : St) (st bg : Nat → Int32) (oj : Nat → Nat) (i j : Nat) (a b : Int) (p0 p q : Nat) : Prop := (DN z i a p ∨ (p = p0 ∧ DN z j b q)) ∧ MP zm st bg oj i j p q
theorem nI_24 {p q : Nat} (hp : p < 24) (hq : q < 24) (h : nI p = nI q) : p = q := by
  have q1 : (nI p).toInt = (p : Int) := nI_toInt (by omega)
  have q2 : (nI q).toInt = (q : Int) := nI_toInt (by omega)
  rw [h] at q1
  omega
theorem DN_1 {z : St} {i p p0 : Nat} {a : Nat} (hp : p < 24) (hp0 : p0 < 24) (hr : gF z 26 (24 * i + a) = nI p0) : DN z i ((a : Int) + 1) p ↔ DN z i (a : Int) p ∨ p = p0 := by
  constructor
  · rintro ⟨a', h1, h2⟩
    by_cases e : a' = a
    · rw [e, hr] at h2
      exact Or.inr (nI_24 hp0 hp h2).symm
    · exact Or.inl ⟨a', by omega, h2⟩
  · rintro (⟨a', h1, h2⟩ | h)
    · exact ⟨a', by omega, h2⟩
    · exact ⟨a, by omega, by rw [h]; exact hr⟩
theorem IQ_0 {z zm : St} {st bg : Nat → Int32} {oj : Nat → Nat} {i j : Nat} {a : Int} {p0 p q : Nat} : (DN z i a p ∧ MP zm st bg oj i j p q) ↔ IQ z zm st bg oj i j a 0 p0 p q := by
  constructor
  · rintro ⟨h, x⟩
    exact ⟨Or.inl h, x⟩
  · rintro ⟨h | ⟨_, b, h1, _⟩, x⟩
    · exact ⟨h, x⟩
    · omega
theorem IQ_1 {z zm : St} {st bg : Nat → Int32} {oj : Nat → Nat} {i j : Nat} {a : Int} {b p0 q0 p q : Nat} (hq : q < 24) (hq0 : q0 < 24) (hr : gF z 26 (24 * j + b) = nI q0) : IQ z zm st bg oj i j a ((b : Int) + 1) p0 p q ↔ IQ z zm st bg oj i j a (b : Int) p0 p q ∨ ((p = p0 ∧ q = q0) ∧ MP zm st bg oj i j p q) := by
  unfold IQ
  rw [DN_1 hq hq0 hr]
  constructor
  · rintro ⟨h | ⟨h, h' | h'⟩, x⟩
    · exact Or.inl ⟨Or.inl h, x⟩
    · exact Or.inl ⟨Or.inr ⟨h, h'⟩, x⟩
    · exact Or.inr ⟨⟨h, h'⟩, x⟩
  · rintro (⟨h | ⟨h, h'⟩, x⟩ | ⟨⟨h, h'⟩, x⟩)
    · exact ⟨Or.inl h, x⟩
    · exact ⟨Or.inr ⟨h, Or.inl h'⟩, x⟩
    · exact ⟨Or.inr ⟨h, Or.inr h'⟩, x⟩
theorem IQ_e {z zm : St} {st bg : Nat → Int32} {oj : Nat → Nat} {i j : Nat} {a : Nat} {b : Int} {p0 p q : Nat} (hp : p < 24) (hp0 : p0 < 24) (hr : gF z 26 (24 * i + a) = nI p0) (hb : OFF zm st bg oj j q → DN z j b q) : IQ z zm st bg oj i j (a : Int) b p0 p q ↔ (DN z i ((a : Int) + 1) p ∧ MP zm st bg oj i j p q) := by
  unfold IQ
  rw [DN_1 hp hp0 hr]
  constructor
  · rintro ⟨h | ⟨h, _⟩, x⟩
    · exact ⟨Or.inl h, x⟩
    · exact ⟨Or.inr h, x⟩
  · rintro ⟨h | h, x⟩
    · exact ⟨Or.inl h, x⟩
    · exact ⟨Or.inr ⟨h, hb x.2.1⟩, x⟩
set_option maxHeartbeats 8000000 in
theorem v_X6_matchPair (b1 b2 : Int32) (z zm : St) (P : St → Prop) (st bg : Nat → Int32) (oj : Nat → Nat) (n i j : Nat) (ht : TX z) (tm : TM zm) (bb : BB zm) (pb : PLB zm st bg) (cp : CP z zm st bg) (sd : SD z zm st bg oj n) (h5 : n ≤ 5) (hi : i < n) (hj : j < n) (hij : i ≠ j) (ho : ∀ k, k < n → oj k < 16 ∧ ((oj k : Nat) : Int) < (gI zm 12).toInt) (e1 : b1 = nI i) (e2 : b2 = nI j) (h0 : FT z i j (fun _ _ => False)) (hk : ∀ z2 : St, TX z2 → Same [] [29] z z2 → z2.2.2 = z.2.2 → FT z2 i j (MP zm st bg oj i j) → (∀ x : Nat, (∀ p, p < 24 → x ≠ (24 * i + p) * 5 + j ∧ x ≠ (24 * j + p) * 5 + i) → gF z2 29 x = gF z 29 x) → P z2) : wp_X6_matchPair_34 b1 b2 z P := by
  have f12 : 0 ≤ (gI zm 12).toInt ∧ (gI zm 12).toInt ≤ 16 := tm.1 12
  have i1 : b1.toInt = (i : Int) := by rw [e1, nI_toInt (by omega)]
  have i2 : b2.toInt = (j : Int) := by rw [e2, nI_toInt (by omega)]
  have c1 : b1.toNatClampNeg = i := by rw [e1, nI_clamp (by omega)]
  have c2 : b2.toNatClampNeg = j := by rw [e2, nI_clamp (by omega)]
  have oi := ho i hi
  have ojj := ho j hj
  have r23i : gF z 23 i = nI (oj i) := sd.2.1 i hi
  have r23j : gF z 23 j = nI (oj j) := sd.2.1 j hj
  have ii : (nI (oj i)).toInt = ((oj i : Nat) : Int) := nI_toInt (by omega)
  have ij : (nI (oj j)).toInt = ((oj j : Nat) : Int) := nI_toInt (by omega)
  have ci : (nI (oj i)).toNatClampNeg = oj i := nI_clamp (by omega)
  have cj : (nI (oj j)).toNatClampNeg = oj j := nI_clamp (by omega)
  obtain ⟨q14, q15, _, q17, q18⟩ := cp.1.2.1
  have fi7 : 0 ≤ (gF zm 7 (oj i)).toInt ∧ (gF zm 7 (oj i)).toInt ≤ 167 := tm.2 7 _
  have fj7 : 0 ≤ (gF zm 7 (oj j)).toInt ∧ (gF zm 7 (oj j)).toInt ≤ 167 := tm.2 7 _
  have fi9 : 0 ≤ (gF zm 9 (oj i)).toInt ∧ (gF zm 9 (oj i)).toInt ≤ 4 := tm.2 9 _
  have fj9 : 0 ≤ (gF zm 9 (oj j)).toInt ∧ (gF zm 9 (oj j)).toInt ≤ 4 := tm.2 9 _
  have ci7 := clampN fi7.1
  have cj7 := clampN fj7.1
  have hv1 : vp_in b1 5 := vin i1 (by omega) (by omega)
  have hv2 : vp_in b2 5 := vin i2 (by omega) (by omega)
  have sdi := sd.2.2 i hi
  have sdj := sd.2.2 j hj
  have g25i : 0 ≤ (gF z 25 i).toInt ∧ (gF z 25 i).toInt ≤ 24 := ht.2 25 _
  have g25j : 0 ≤ (gF z 25 j).toInt ∧ (gF z 25 j).toInt ≤ 24 := ht.2 25 _
  have m1 : (b1 * (24 : Int32)).toInt = (i : Int) * 24 := a_mul i1 (show (24 : Int32).toInt = 24 from rfl) (by omega) (by omega)
  have m2 : (b2 * (24 : Int32)).toInt = (j : Int) * 24 := a_mul i2 (show (24 : Int32).toInt = 24 from rfl) (by omega) (by omega)
  unfold wp_X6_matchPair_34
  refine ⟨hv1, hv2, ?_⟩
  rw [c1, c2, r23i, r23j]
  refine v_isBefore2 _ _ _ _ (by omega) (by omega) (fun r2 h2 => ⟨hv2, hv1, ?_⟩)
  rw [ci, cj, cp.2.1.2.2 (oj i) (oj j) oi.1 ojj.1] at h2
  refine v_isBefore2 _ _ _ _ (by omega) (by omega) (fun r4 h4 => ?_)
  rw [ci, cj, cp.2.1.2.2 (oj j) (oj i) ojj.1 oi.1] at h4
  intro K6 hK6
  have L6 : ∀ (m : Nat) (v5 : Int32) (z7 : St), TX z7 → Same [] [29] z z7 → z7.2.2 = z.2.2 → 0 ≤ v5.toInt → v5.toInt ≤ (gF z 25 i).toInt → FT z7 i j (fun p q => DN z i v5.toInt p ∧ MP zm st bg oj i j p q) → (∀ x : Nat, (∀ p, p < 24 → x ≠ (24 * i + p) * 5 + j ∧ x ≠ (24 * j + p) * 5 + i) → gF z7 29 x = gF z 29 x) → (24 - v5.toInt).toNat < m → K6 v5 z7 := by
    intro m
    induction m with
    | zero => intro v5 z7 _ _ _ _ _ _ _ q; omega
    | succ m ih =>
      intro v5 z7 t7 s7 l7 g0 g1 ft7 out7 gm
      have cv := clampN g0
      have w25 : gF z7 25 = gF z 25 := s7.2 25 (by decide)
      have w26 : gF z7 26 = gF z 26 := s7.2 26 (by decide)
      have w23 : gF z7 23 = gF z 23 := s7.2 23 (by decide)
      have w15 : gF z7 15 = gF zm 7 := (s7.2 15 (by decide)).trans q15
      have w17 : gF z7 17 = gF zm 9 := (s7.2 17 (by decide)).trans q17
      refine hK6 v5 z7 ⟨hv1, fun c => ?_, fun c => ?_⟩
      · rw [w25] at c
        have c' := i_le rfl rfl c
        refine hk z7 t7 s7 l7 (FT_iff ft7 (fun p q hp hq => ⟨fun x => x.2, fun x => ⟨?_, x⟩⟩)) out7
        obtain ⟨a, h1, h2⟩ := sdi.2.2.1 p hp x.1
        exact ⟨a, by omega, h2⟩
      · rw [w25] at c
        have c' := i_nle rfl rfl c
        obtain ⟨p0, hp0, hof0, hr0⟩ := sdi.2.1 v5.toNatClampNeg (by omega)
        have bp := OFF_b tm hof0
        unfold pl Fi at bp
        have ix : (b1 * (24 : Int32) + v5).toInt = (i : Int) * 24 + v5.toInt := a_add m1 rfl (by omega) (by omega)
        have cx := clampN (x := b1 * (24 : Int32) + v5) (by omega)
        have ex : (b1 * (24 : Int32) + v5).toNatClampNeg = 24 * i + v5.toNatClampNeg := by omega
        have hv16 : vp_in (nI (oj i)) 16 := vin ii (by omega) (by omega)
        refine ⟨vin ix (by omega) (by omega), ?_⟩
        rw [ex, w26, hr0, w23, r23i, ci, w15, w17]
        intro x9 e9
        have ip0 : x9.toInt = (p0 : Int) := by rw [e9, nI_toInt (by omega)]
        refine ⟨hv1, hv16, ?_⟩
        intro x10 e10
        have i10 : x10.toInt = ((gF zm 7 (oj i)).toNatClampNeg + p0 : Nat) := by rw [e10, a_add rfl ip0 (by omega) (by omega)]; omega
        refine ⟨hv1, hv16, ?_⟩
        intro x11 e11
        have i11 : x11.toInt = x10.toInt + (gF zm 9 (oj i)).toInt := by rw [e11]; exact a_add rfl rfl (by omega) (by omega)
        intro K13 hK13
        have L13 : ∀ (f : Nat) (v12 : Int32) (z14 : St), TX z14 → Same [] [29] z z14 → z14.2.2 = z.2.2 → 0 ≤ v12.toInt → v12.toInt ≤ (gF z 25 j).toInt → FT z14 i j (IQ z zm st bg oj i j v5.toInt v12.toInt p0) → (∀ x : Nat, (∀ p, p < 24 → x ≠ (24 * i + p) * 5 + j ∧ x ≠ (24 * j + p) * 5 + i) → gF z14 29 x = gF z 29 x) → (24 - v12.toInt).toNat < f → K13 v12 z14 := by
          intro f
          induction f with
          | zero => intro v12 z14 _ _ _ _ _ _ _ q; omega
          | succ f ihf =>
            intro v12 z14 t14 s14 l14 k0 k1 ft14 out14 fm
            have cv12 := clampN k0
            have y25 : gF z14 25 = gF z 25 := s14.2 25 (by decide)
            have y26 : gF z14 26 = gF z 26 := s14.2 26 (by decide)
            have y23 : gF z14 23 = gF z 23 := s14.2 23 (by decide)
            have y15 : gF z14 15 = gF zm 7 := (s14.2 15 (by decide)).trans q15
            have y17 : gF z14 17 = gF zm 9 := (s14.2 17 (by decide)).trans q17
            refine hK13 v12 z14 ⟨hv2, fun cc => ?_, fun cc => ?_⟩
            · rw [y25] at cc
              have cc' := i_le rfl rfl cc
              intro x16 e16
              have i16 : x16.toInt = v5.toInt + 1 := by rw [e16]; exact a_add rfl rfl (by omega) (by omega)
              refine ih x16 z14 t14 s14 l14 (by omega) (by omega) (FT_iff ft14 (fun p q hp hq => ?_)) out14 (by omega)
              have hx := IQ_e (zm := zm) (st := st) (bg := bg) (oj := oj) (j := j) (b := v12.toInt) (q := q) hp hp0 hr0 (fun hoq => by
                obtain ⟨b, h3, h4⟩ := sdj.2.2.1 q hq hoq
                exact ⟨b, by omega, h4⟩)
              rw [cv] at hx
              rw [i16]
              exact hx
            · rw [y25] at cc
              have cc' := i_nle rfl rfl cc
              obtain ⟨q0, hq0, hofq, hrq⟩ := sdj.2.1 v12.toNatClampNeg (by omega)
              have bq := OFF_b tm hofq
              unfold pl Fi at bq
              have iy : (b2 * (24 : Int32) + v12).toInt = (j : Int) * 24 + v12.toInt := a_add m2 rfl (by omega) (by omega)
              have cy := clampN (x := b2 * (24 : Int32) + v12) (by omega)
              have ey : (b2 * (24 : Int32) + v12).toNatClampNeg = 24 * j + v12.toNatClampNeg := by omega
              have hv16j : vp_in (nI (oj j)) 16 := vin ij (by omega) (by omega)
              refine ⟨vin iy (by omega) (by omega), ?_⟩
              rw [ey, y26, hrq, y23, r23j, cj, y15, y17, r23i]
              intro x17 e17
              have iq0 : x17.toInt = (q0 : Int) := by rw [e17, nI_toInt (by omega)]
              refine ⟨hv2, hv16j, ?_⟩
              intro x18 e18
              have i18 : x18.toInt = ((gF zm 7 (oj j)).toNatClampNeg + q0 : Nat) := by rw [e18, a_add rfl iq0 (by omega) (by omega)]; omega
              refine ⟨hv2, hv16j, ?_⟩
              intro x19 e19
              have i19 : x19.toInt = x18.toInt + (gF zm 9 (oj j)).toInt := by rw [e19]; exact a_add rfl rfl (by omega) (by omega)
              have hstep : ∀ p q, q < 24 → (IQ z zm st bg oj i j v5.toInt (v12.toInt + 1) p0 p q ↔ IQ z zm st bg oj i j v5.toInt v12.toInt p0 p q ∨ ((p = p0 ∧ q = q0) ∧ MP zm st bg oj i j p q)) := by
                intro p q hq
                have hx := IQ_1 (zm := zm) (st := st) (bg := bg) (oj := oj) (i := i) (a := v5.toInt) (p0 := p0) (p := p) hq hq0 hrq
                rw [cv12] at hx
                exact hx
              intro K20 hK20
              have next : ∀ z21 : St, TX z21 → Same [] [29] z z21 → z21.2.2 = z.2.2 → FT z21 i j (IQ z zm st bg oj i j v5.toInt (v12.toInt + 1) p0) → (∀ x : Nat, (∀ p, p < 24 → x ≠ (24 * i + p) * 5 + j ∧ x ≠ (24 * j + p) * 5 + i) → gF z21 29 x = gF z 29 x) → K20 z21 := by
                intro z21 t21 s21 l21 ft21 out21
                refine hK20 z21 (fun x22 e22 => ?_)
                have i22 : x22.toInt = v12.toInt + 1 := by rw [e22]; exact a_add rfl rfl (by omega) (by omega)
                exact ihf x22 z21 t21 s21 l21 (by omega) (by omega) (by rw [i22]; exact ft21) out21 (by omega)
              have hpl1 : pl zm oj i p0 = x10.toInt := by rw [i10]; rfl
              have hpl2 : pl zm oj j q0 = x18.toInt := by rw [i18]; rfl
              have hno : ¬ CMP zm st bg (oj i) (oj j) x10.toInt x18.toInt → K20 z14 := by
                intro hn
                refine next z14 t14 s14 l14 (FT_iff ft14 (fun p q hp hq => ?_)) out14
                rw [hstep p q hq]
                refine ⟨Or.inl, fun h => h.elim id (fun ⟨⟨h1, h2⟩, x⟩ => ?_)⟩
                have x3 := x.2.2
                rw [h1, h2, hpl1, hpl2] at x3
                exact absurd x3 hn
              have hyes : CMP zm st bg (oj i) (oj j) x10.toInt x18.toInt → ∀ z26 z27 : St, z26 = wR z14 29 (upd (gF z14 29) ((24 * i + p0) * 5 + j) (gF z14 29 ((24 * i + p0) * 5 + j) ||| ((1 : Int32) <<< (nI q0 &&& 31)))) → z27 = wR z26 29 (upd (gF z26 29) ((24 * j + q0) * 5 + i) (gF z26 29 ((24 * j + q0) * 5 + i) ||| ((1 : Int32) <<< (nI p0 &&& 31)))) → K20 z27 := by
                intro hc z26 z27 e26 e27
                have hMP : MP zm st bg oj i j p0 q0 := ⟨hof0, hofq, by rw [hpl1, hpl2]; exact hc⟩
                obtain ⟨f1, f2⟩ := FT_set ft14 (by omega) (by omega) hij hp0 hq0 e26 e27
                have t26 : TX z26 := by rw [e26]; exact Ty_wR t14 trivial
                refine next z27 (by rw [e27]; exact Ty_wR t26 trivial) ((s14.r (by decide) e26).r (by decide) e27) (by rw [e27, e26]; exact l14) (FT_iff f1 (fun p q hp hq => ?_)) (fun x hx => ?_)
                · rw [hstep p q hq]
                  refine ⟨fun h => h.elim Or.inl (fun h' => Or.inr ⟨h', ?_⟩), fun h => h.elim Or.inl (fun h' => Or.inr h'.1)⟩
                  rw [h'.1, h'.2]; exact hMP
                · rw [f2 x (hx p0 hp0).1 (hx q0 hq0).2]
                  exact out14 x hx
              intro K23 hK23
              have h23 : (Bm zm (oj i) (oj j) → x10.toInt + (gF zm 9 (oj i)).toInt ≤ x18.toInt) → K23 := by
                intro hb1
                refine hK23 ?_
                intro K24 hK24
                have h24 : (Bm zm (oj j) (oj i) → x18.toInt + (gF zm 9 (oj j)).toInt ≤ x10.toInt) → K24 := by
                  intro hb2
                  refine hK24 ?_
                  intro K25 hK25
                  have h25 : (x10.toInt + (gF zm 9 (oj i)).toInt ≤ x18.toInt ∨ x18.toInt + (gF zm 9 (oj j)).toInt ≤ x10.toInt ∨ AB zm st bg (oj i) (oj j) x10.toInt x18.toInt) → K25 := by
                    intro h3
                    refine hK25 ?_
                    have mA : ((b1 * (24 : Int32) + x9) * (5 : Int32)).toInt = ((i : Int) * 24 + (p0 : Int)) * 5 := a_mul (a_add m1 ip0 (by omega) (by omega)) (show (5 : Int32).toInt = 5 from rfl) (by omega) (by omega)
                    have iA : ((b1 * (24 : Int32) + x9) * (5 : Int32) + b2).toInt = ((i : Int) * 24 + (p0 : Int)) * 5 + (j : Int) := a_add mA i2 (by omega) (by omega)
                    have cA := clampN (x := (b1 * (24 : Int32) + x9) * (5 : Int32) + b2) (by omega)
                    have eA : ((b1 * (24 : Int32) + x9) * (5 : Int32) + b2).toNatClampNeg = (24 * i + p0) * 5 + j := by omega
                    have mB : ((b2 * (24 : Int32) + x17) * (5 : Int32)).toInt = ((j : Int) * 24 + (q0 : Int)) * 5 := a_mul (a_add m2 iq0 (by omega) (by omega)) (show (5 : Int32).toInt = 5 from rfl) (by omega) (by omega)
                    have iB : ((b2 * (24 : Int32) + x17) * (5 : Int32) + b1).toInt = ((j : Int) * 24 + (q0 : Int)) * 5 + (i : Int) := a_add mB i1 (by omega) (by omega)
                    have cB := clampN (x := (b2 * (24 : Int32) + x17) * (5 : Int32) + b1) (by omega)
                    have eB : ((b2 * (24 : Int32) + x17) * (5 : Int32) + b1).toNatClampNeg = (24 * j + q0) * 5 + i := by omega
                    refine ⟨vin iA (by omega) (by omega), vin iA (by omega) (by omega), ?_⟩
                    intro z26 e26
                    refine ⟨vin iB (by omega) (by omega), vin iB (by omega) (by omega), ?_⟩
                    intro z27 e27
                    rw [eA, e17] at e26
                    rw [eB, e9] at e27
                    exact hyes ⟨hb1, hb2, h3⟩ z26 z27 e26 e27
                  refine ⟨fun c3 => h25 (Or.inl (by have := i_le rfl rfl c3; omega)), fun c3 => ⟨fun c4 => h25 (Or.inr (Or.inl (by have := i_le rfl rfl c4; omega))), fun c4 => ⟨hv1, hv2, ?_⟩⟩⟩
                  have cp14 : CP z14 zm st bg := ⟨SE_mv cp.1 s14 (by decide) (by decide) (by decide) (by decide) (by decide) (by decide) (by decide) (by decide) (by decide) (by decide) (by decide) (by decide), RE_mv cp.2.1 s14 (by decide) (by decide) (by decide) (by decide), TD_mv cp.2.2.1 s14 (by decide), PX_mv cp.2.2.2.1 s14, fun o h => by rw [s14.2 19 (by decide)]; exact cp.2.2.2.2.1 o h, fun o h hs => by rw [s14.2 20 (by decide)]; exact cp.2.2.2.2.2 o h hs⟩
                  have d3 := i_nle rfl rfl c3
                  have d4 := i_nle rfl rfl c4
                  refine v_X6_areBorne _ _ _ _ z14 zm _ st bg t14 tm bb pb cp14 (by omega) (by omega) (by rw [ci]; omega) (by rw [cj]; omega) (fun ab => ⟨fun q => absurd q (by decide), fun _ => h25 (Or.inr (Or.inr ?_))⟩) (fun ab => ⟨fun _ => hno (fun q => ?_), fun q => absurd rfl q⟩)
                  · rw [ci, cj] at ab; exact ab
                  · rw [ci, cj] at ab
                    rcases q.2.2 with h | h | h
                    · omega
                    · omega
                    · exact ab h
                refine ⟨fun c4 => h24 (fun b => absurd b (h4.mp c4)), fun c4 => ⟨fun c5 => h24 (fun _ => by have := i_le rfl rfl c5; omega), fun c5 => hno (fun q => ?_)⟩⟩
                have d5 := i_nle rfl rfl c5
                have hb : Bm zm (oj j) (oj i) := Classical.byContradiction (fun hn => c4 (h4.mpr hn))
                have := q.2.1 hb
                omega
              refine ⟨fun c3 => h23 (fun b => absurd b (h2.mp c3)), fun c3 => ⟨fun c5 => hno (fun q => ?_), fun c5 => h23 (fun _ => by have := i_nlt rfl rfl c5; omega)⟩⟩
              have d5 := i_lt rfl rfl c5
              have hb : Bm zm (oj i) (oj j) := Classical.byContradiction (fun hn => c3 (h2.mpr hn))
              have := q.1 hb
              omega
        refine L13 _ 0 z7 t7 s7 l7 (by decide) g25j.1 (FT_iff ft7 (fun p q _ _ => IQ_0)) out7 (Nat.lt_succ_self _)
  refine L6 _ 0 z ht Same.rf rfl (by decide) g25i.1 (FT_iff h0 (fun p q _ _ => ⟨fun h => h.elim, fun ⟨⟨a, h1, _⟩, _⟩ => ?_⟩)) (fun _ _ => rfl) (Nat.lt_succ_self _)
  have : (0 : Int32).toInt = 0 := rfl
  omega
