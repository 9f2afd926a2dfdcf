-- THE WALK, as choices
theorem lgc_ge {x y : Int64} (h : 0 ≤ lg_cmp x y) : y.toInt ≤ x.toInt := by
  have h2 : ¬ x.toInt < y.toInt := fun q => absurd (lgc_lt.mpr q) (Int32.not_lt.mpr h)
  omega
theorem lgc_nge {x y : Int64} (h : ¬ 0 ≤ lg_cmp x y) : x.toInt < y.toInt := lgc_lt.mp (Int32.not_le.mp h)
def uP (pc : Nat → Nat) (lv p : Nat) : Nat → Nat := fun l => if l = lv then p else pc l
theorem uP_at {pc : Nat → Nat} {lv p : Nat} : uP pc lv p lv = p := if_pos rfl
theorem uP_ne {pc : Nat → Nat} {lv p l : Nat} (h : l ≠ lv) : uP pc lv p l = pc l := if_neg h
theorem cP_co {zm : St} {oj : Nat → Nat} {pc pc' : Nat → Nat} {l : Nat} (h : pc' l = pc l) : cP zm oj pc' l = cP zm oj pc l := by
  unfold cP
  rw [h]
/-- the choices that go, with these first places -/
def AX (zm : St) (st bg : Nat → Int32) (oj : Nat → Nat) (n lv : Nat) (pc0 pc : Nat → Nat) : Prop := FeB zm st bg oj n pc ∧ ∀ l, l < lv → pc l = pc0 l
/-- what a walk over the choices A does: nothing, or the cheapest of them (or the first) is kept -/
def PW (zm : St) (oj : Nat → Nat) (n : Nat) (z z2 : St) (A : (Nat → Nat) → Prop) : Prop := (gJ z2 2215 = gJ z 2215 ∧ gJ z2 2214 = gJ z 2214 ∧ (∀ k, k < n → gF z2 33 k = gF z 33 k) ∧ ∀ pc, A pc → (gJ z 2215).toInt ≤ coF zm oj (cP zm oj pc) n) ∨ (∃ pb, A pb ∧ coF zm oj (cP zm oj pb) n < (gJ z 2215).toInt ∧ (gJ z2 2214).toInt = coF zm oj (cP zm oj pb) n ∧ (∀ k, k < n → gF z2 33 k = nI (pb k)) ∧ ((gI z 2216 = 0 ∧ gJ z2 2215 = gJ z2 2214 ∧ ∀ pc, A pc → coF zm oj (cP zm oj pb) n ≤ coF zm oj (cP zm oj pc) n) ∨ (¬ gI z 2216 = 0 ∧ gJ z2 2215 = -1000000000000000000 ∧ ∀ pc, A pc → coF zm oj (cP zm oj pc) n < (gJ z 2215).toInt → ¬ lx n (cP zm oj pc) (cP zm oj pb))))
theorem PW_tr {zm : St} {oj : Nat → Nat} {n : Nat} {z z1 z2 : St} {A A' : (Nat → Nat) → Prop} (cb : ∀ pc, A' pc → -1000000000 ≤ coF zm oj (cP zm oj pc) n) (h : PW zm oj n z z1 A) (h' : PW zm oj n z1 z2 A') (e : gI z1 2216 = gI z 2216) (hlx : ¬ gI z 2216 = 0 → ∀ pb, A pb → ∀ pc, A' pc → ¬ lx n (cP zm oj pc) (cP zm oj pb)) : PW zm oj n z z2 (fun pc => A pc ∨ A' pc) := by
  rcases h with ⟨a1, a2, a3, a4⟩ | ⟨pb, b1, b2, b3, b4, b5⟩
  · rcases h' with ⟨c1, c2, c3, c4⟩ | ⟨pb, d1, d2, d3, d4, d5⟩
    · refine Or.inl ⟨c1.trans a1, c2.trans a2, fun k hk => (c3 k hk).trans (a3 k hk), fun pc hA => ?_⟩
      rcases hA with q | q
      · exact a4 pc q
      · have := c4 pc q
        rw [a1] at this
        exact this
    · rw [a1] at d2
      rw [e, a1] at d5
      refine Or.inr ⟨pb, Or.inr d1, d2, d3, d4, ?_⟩
      rcases d5 with ⟨m, x, y⟩ | ⟨m, x, y⟩
      · refine Or.inl ⟨m, x, fun pc hA => ?_⟩
        rcases hA with q | q
        · have := a4 pc q
          omega
        · exact y pc q
      · refine Or.inr ⟨m, x, fun pc hA hlt => ?_⟩
        rcases hA with q | q
        · have := a4 pc q
          omega
        · exact y pc q hlt
  · rcases h' with ⟨c1, c2, c3, c4⟩ | ⟨pb', d1, d2, d3, d4, d5⟩
    · refine Or.inr ⟨pb, Or.inl b1, b2, by rw [c2]; exact b3, fun k hk => (c3 k hk).trans (b4 k hk), ?_⟩
      rcases b5 with ⟨m, x, y⟩ | ⟨m, x, y⟩
      · refine Or.inl ⟨m, by rw [c1, c2]; exact x, fun pc hA => ?_⟩
        rcases hA with q | q
        · exact y pc q
        · have := c4 pc q
          rw [x, b3] at this
          exact this
      · refine Or.inr ⟨m, by rw [c1]; exact x, fun pc hA hlt => ?_⟩
        rcases hA with q | q
        · exact y pc q hlt
        · exact hlx m pb b1 pc q
    · rcases b5 with ⟨m, x, y⟩ | ⟨m, x, y⟩
      · rw [x, b3] at d2
        rw [e] at d5
        refine Or.inr ⟨pb', Or.inr d1, by omega, d3, d4, ?_⟩
        rcases d5 with ⟨m', x', y'⟩ | ⟨m', _, _⟩
        · refine Or.inl ⟨m, x', fun pc hA => ?_⟩
          rcases hA with q | q
          · have := y pc q
            omega
          · exact y' pc q
        · exact absurd m m'
      · rw [x, show (-1000000000000000000 : Int64).toInt = -1000000000000000000 from rfl] at d2
        have := cb pb' d1
        omega
theorem PW_iff {zm : St} {oj : Nat → Nat} {n : Nat} {z z2 : St} {A A' : (Nat → Nat) → Prop} (h : PW zm oj n z z2 A) (e : ∀ pc, A pc ↔ A' pc) : PW zm oj n z z2 A' := by
  have : A = A' := funext (fun pc => propext (e pc))
  rw [← this]
  exact h
theorem PW_fr {zm : St} {oj : Nat → Nat} {n : Nat} {z z6 z8 z10 : St} {A : (Nat → Nat) → Prop} (h : PW zm oj n z6 z8 A) (a : gJ z6 2215 = gJ z 2215) (b : gJ z6 2214 = gJ z 2214) (c : ∀ k, k < n → gF z6 33 k = gF z 33 k) (m : gI z6 2216 = gI z 2216) (a' : gJ z10 2215 = gJ z8 2215) (b' : gJ z10 2214 = gJ z8 2214) (c' : ∀ k, k < n → gF z10 33 k = gF z8 33 k) : PW zm oj n z z10 A := by
  unfold PW at h ⊢
  rw [a', b', ← a, ← b, ← m]
  rcases h with ⟨h1, h2, h3, h4⟩ | ⟨pb, h1, h2, h3, h4, h5⟩
  · exact Or.inl ⟨h1, h2, fun k hk => (c' k hk).trans ((h3 k hk).trans (c k hk)), h4⟩
  · exact Or.inr ⟨pb, h1, h2, h3, fun k hk => (c' k hk).trans (h4 k hk), h5⟩
/-- what a walk at level lv leaves as it was -/
def FRM (z z2 : St) (lv : Nat) : Prop := TX z2 ∧ Same [] [10, 12, 30, 32, 33] z z2 ∧ gG z2 28 = gG z 28 ∧ (∀ x, x < 5 * (lv + 1) → gF z2 30 x = gF z 30 x) ∧ (∀ x, x ≤ lv → gG z2 31 x = gG z 31 x) ∧ (∀ l, l < lv → gF z2 32 l = gF z 32 l) ∧ (∀ h t : Nat, h < 4 → t < 168 → gF z2 10 (168 * h + t) = gF z 10 (168 * h + t)) ∧ ∀ t : Nat, t < 168 → gF z2 12 t = gF z 12 t
theorem FRM_rf {z : St} {lv : Nat} (h : TX z) : FRM z z lv := ⟨h, Same.rf, rfl, fun _ _ => rfl, fun _ _ => rfl, fun _ _ => rfl, fun _ _ _ _ => rfl, fun _ _ => rfl⟩
theorem FRM_tr {z z1 z2 : St} {lv : Nat} (h : FRM z z1 lv) (h' : FRM z1 z2 lv) : FRM z z2 lv := by
  obtain ⟨_, a2, a3, a4, a5, a6, a7, a8⟩ := h
  obtain ⟨b1, b2, b3, b4, b5, b6, b7, b8⟩ := h'
  exact ⟨b1, a2.tr b2 (by decide) (by decide), b3.trans a3, fun x hx => (b4 x hx).trans (a4 x hx), fun x hx => (b5 x hx).trans (a5 x hx), fun l hl => (b6 l hl).trans (a6 l hl), fun h t h1 h2 => (b7 h t h1 h2).trans (a7 h t h1 h2), fun t h2 => (b8 t h2).trans (a8 t h2)⟩
theorem NF_FRM {z z2 : St} {lv : Nat} (h : NF z z2 lv) : FRM z z2 lv := by
  obtain ⟨a1, a2, a3, _, a5, a6⟩ := h
  exact ⟨a1, Same.tr (z1 := z) Same.rf a2 (by decide) (by decide), a3, a5, a6, fun l _ => by rw [a2.2 32 (by decide)], fun h t _ _ => by rw [a2.2 10 (by decide)], fun t _ => by rw [a2.2 12 (by decide)]⟩
theorem PE_lo {z z2 : St} {n : Nat} {r6 r9 r10 st bg : Nat → Int32} (h : PE z n r6 r9 r10 st bg) (a : ∀ h t : Nat, h < 4 → t < 168 → gF z2 10 (168 * h + t) = gF z 10 (168 * h + t)) (b : ∀ t : Nat, t < 168 → gF z2 12 t = gF z 12 t) : PE z2 n r6 r9 r10 st bg := ⟨fun hh t h1 h2 => (a hh t h1 h2).trans (h.1 hh t h1 h2), fun t h2 => (b t h2).trans (h.2 t h2)⟩
/-- where the walk stands: the bits of its level, the least of the rest, the places taken, the loads -/
def WI (z zm : St) (st bg : Nat → Int32) (oj : Nat → Nat) (n : Nat) (Fq : Nat → Nat → Prop) (lv : Nat) (pc : Nat → Nat) : Prop := (∀ j, lv ≤ j → j < n → ¬ gF z 30 (5 * lv + j) = 0 ∧ ∀ p, p < 32 → (bt (gF z 30 (5 * lv + j)) (nI p) ↔ Fq j p ∧ ∀ l, l < lv → MP zm st bg oj l j (pc l) p)) ∧ gG z 31 lv = sL (fun j => loV z j (gF z 30 (5 * lv + j))) lv (n - lv) ∧ (∀ l, l < lv → pc l < 24 ∧ gF z 32 l = nI (pc l)) ∧ PE z (gI zm 12).toNatClampNeg (gF zm 6) (gF zm 9) (gF zm 10) (pS st oj lv) (pG bg oj (cP zm oj pc) lv) ∧ FeP zm st bg oj lv (cP zm oj pc)
theorem WI_mv {z z2 zm : St} {st bg : Nat → Int32} {oj : Nat → Nat} {n : Nat} {Fq : Nat → Nat → Prop} {lv : Nat} {pc : Nat → Nat} (h : WI z zm st bg oj n Fq lv pc) (f : FRM z z2 lv) (h5 : n ≤ 5) : WI z2 zm st bg oj n Fq lv pc := by
  obtain ⟨a1, a2, a3, a4, a5⟩ := h
  obtain ⟨_, b2, b3, b4, b5, b6, b7, b8⟩ := f
  refine ⟨fun j h1 h2 => ?_, ?_, fun l hl => ?_, PE_lo a4 b7 b8, a5⟩
  · rw [b4 (5 * lv + j) (by omega)]; exact a1 j h1 h2
  · rw [b5 lv (Nat.le_refl _), a2]
    refine sL_co (n - lv) (fun j h1 h2 => ?_)
    rw [b4 (5 * lv + j) (by omega), loV_same b2 (by decide) (by decide) b3]
  · rw [b6 l hl]; exact a3 l hl
theorem co_low {zm : St} {oj : Nat → Nat} {pc : Nat → Nat} {n a : Nat} {f : Nat → Int} (tm : TM zm) (h24 : ∀ k, k < n → pc k < 24) : ∀ d, a + d ≤ n → (∀ j, a ≤ j → j < a + d → f j ≤ (ctM zm (oj j) (Fi zm oj j + pc j)).toInt) → coF zm oj (cP zm oj pc) a + sR f a d ≤ coF zm oj (cP zm oj pc) (a + d) := by
  intro d
  induction d with
  | zero =>
    intro _ _
    show coF zm oj (cP zm oj pc) a + 0 ≤ coF zm oj (cP zm oj pc) a
    omega
  | succ d ih =>
    intro hd h
    have r := ih (by omega) (fun j h1 h2 => h j h1 (by omega))
    have q := h (a + d) (by omega) (by omega)
    show coF zm oj (cP zm oj pc) a + (sR f a d + f (a + d)) ≤ coF zm oj (cP zm oj pc) (a + d) + (ctM zm (oj (a + d)) (cP zm oj pc (a + d)).toNatClampNeg).toInt
    rw [cP_c tm (h24 _ (by omega))]
    omega
theorem lo_bd {z zm : St} {st bg : Nat → Int32} {oj : Nat → Nat} {i : Nat} {b : Int32} (sd : SDr z zm st bg oj i) (hj : ((oj i : Nat) : Int) < (gI zm 12).toInt) (bd : ∀ j t : Nat, (j : Int) < (gI zm 12).toInt → -200000000 ≤ (ctM zm j t).toInt ∧ (ctM zm j t).toInt ≤ 200000000) (hb : ¬ b = 0) (hs : ∀ p, p < 32 → bt b (nI p) → p < 24 ∧ OFF zm st bg oj i p) : -200000000 ≤ (loV z i b).toInt ∧ (loV z i b).toInt ≤ 200000000 := by
  obtain ⟨p, hp, hbt⟩ := bt_ex hb
  obtain ⟨h24, ho⟩ := hs p hp hbt
  have l := loV_le (b2 := b) sd hj bd
  have l1 := l.1 p h24 ho hbt
  have l2 := bd (oj i) (Fi zm oj i + p) hj
  exact ⟨l.2.1, by omega⟩
/-- the class's loads bear what the reference's would -/
theorem BO_eq {z zm : St} {st bg : Nat → Int32} {j : Nat} {h : Int} (se : SE z zm) (tm : TM zm) (bb : BB zm) (pb : PLB zm st bg) (pe : PE z (gI zm 12).toNatClampNeg (gF zm 6) (gF zm 9) (gF zm 10) st bg) (hj : (j : Int) < (gI zm 12).toInt) (h0 : 0 ≤ h) (h1 : h + (gF zm 9 j).toInt ≤ 168) : BOx z j h ↔ BOs zm st bg j h := by
  have f6 : 0 ≤ (gF zm 6 j).toInt ∧ (gF zm 6 j).toInt ≤ 3 := tm.2 6 _
  have c6 := clampN f6.1
  obtain ⟨⟨_, _, s3, _⟩, ⟨q14, _, _, q17, q18⟩, ⟨q8, q9⟩, sb, _⟩ := se
  have key : ∀ k : Nat, (k : Int) < (gF zm 9 j).toInt → ((Fx z (gF z 14 j).toNatClampNeg (h.toNat + k) + gF z 18 (4 * j + k) ≤ gF z 8 (gF z 14 j).toNatClampNeg ∧ Ax z (h.toNat + k) + gF z 18 (4 * j + k) ≤ gI z 706) ↔ ((Hs zm st bg (gF zm 6 j).toNatClampNeg (h.toNat + k)).toInt + (gF zm 10 (4 * j + k)).toInt ≤ (gF zm 4 (gF zm 6 j).toNatClampNeg).toInt ∧ (As zm st bg (h.toNat + k)).toInt + (gF zm 10 (4 * j + k)).toInt ≤ (gI zm 11).toInt)) := by
    intro k hk
    have ht : h.toNat + k < 168 := by omega
    have b1 := (Hs_int (h := (gF zm 6 j).toNatClampNeg) tm bb pb ht).2
    have b2 := (As_int tm bb pb ht).2
    have b3 := bb.2.1 j k hj hk
    have eF : Fx z (gF zm 6 j).toNatClampNeg (h.toNat + k) = Hs zm st bg (gF zm 6 j).toNatClampNeg (h.toNat + k) := by
      unfold Fx Hs
      rw [q9, pe.1 _ _ (by omega) ht]
    have eA : Ax z (h.toNat + k) = As zm st bg (h.toNat + k) := by
      unfold Ax As
      rw [sb _ (by omega), pe.2 _ ht]
    rw [q14, q18, q8, s3, eF, eA, Int32.le_iff_toInt_le, Int32.le_iff_toInt_le, a_add rfl rfl (by omega) (by omega), a_add rfl rfl (by omega) (by omega)]
  unfold BOx BOs
  rw [q17]
  exact ⟨fun g k hk => (key k hk).mp (g k hk), fun g k hk => (key k hk).mpr (g k hk)⟩
theorem dd0 (x d : Int32) : x + 1 * d + -1 * d = x := by
  rw [Int32.neg_mul, Int32.one_mul, Int32.add_assoc, Int32.add_right_neg, Int32.add_zero]
