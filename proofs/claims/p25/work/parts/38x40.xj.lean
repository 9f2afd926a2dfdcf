-- THE RELATION OF BOTH SIDES THAT THE PLANS REST ON
def DEq (zx zm : St) : Prop := ∀ x : Int32, x.toInt ≤ 10000 → (gI zx 3402 < x ↔ ∃ r : Nat, (r : Int) < (gI zm 22).toInt ∧ gF zm 14 r = 1 ∧ gF zm 15 r < x)
def RQ (zx zm : St) : Prop := (∀ h t : Nat, h < 4 → t < 24 → (Qx zx h t ↔ Qm zm (nI h) t)) ∧ (∀ i j : Nat, i < 16 → j < 16 → (Bx zx i j ↔ Bm zm i j)) ∧ ∀ i : Nat, i < 16 → ¬ Bm zm i i
def CB (zm : St) : Prop := BB zm ∧ (∀ j : Nat, (gF zm 7 j).toInt ≤ (gF zm 8 j).toInt + 1) ∧ PLB zm (gF zm 11) (gF zm 12) ∧ (∀ o : Nat, (o : Int) < (gI zm 12).toInt → gF zm 11 o = 1 → (gI zm 2).toInt ≤ (gF zm 12 o).toInt) ∧ ∀ i : Nat, 24 * (gI zm 8).toInt ≤ (i : Int) → gF zm 5 i = 0
def XJ (zx zm : St) : Prop := FR zm ∧ DEq zx zm ∧ RQ zx zm ∧ CB zm ∧ CP zx zm (gF zm 11) (gF zm 12)
theorem RE_of {zx zm : St} (rq : RQ zx zm) (de : DEq zx zm) (td : TD zx zm) (bd : BD zm) : RE zx zm := by
  refine ⟨rq.1, fun t ht => ?_, rq.2.1⟩
  unfold Dx Dm
  rw [td t ht]
  exact de _ (prF_bd bd.2.1 bd.2.2 _).2
theorem DEq_x {zx z2 zm : St} (h : DEq zx zm) (e : gI z2 3402 = gI zx 3402) : DEq z2 zm := by
  unfold DEq
  rw [e]
  exact h
theorem RQ_x {zx z2 zm : St} (h : RQ zx zm) (e35 : gF z2 35 = gF zx 35) (e36 : gF z2 36 = gF zx 36) : RQ z2 zm := by
  unfold RQ Qx Bx
  rw [e35, e36]
  exact h
theorem XJ_x {zx z2 zm : St} {I F : List Nat} (h : XJ zx zm) (s : Same I F zx z2) (hI : ∀ x ∈ [1308, 705, 706, 2104, 3402], x ∉ I) (hF : ∀ x ∈ [5, 8, 9, 10, 11, 12, 14, 15, 16, 17, 18, 19, 20, 35, 36], x ∉ F) : XJ z2 zm :=
  ⟨h.1, DEq_x h.2.1 (s.1 3402 (hI _ (by decide))), RQ_x h.2.2.1 (s.2 35 (hF _ (by decide))) (s.2 36 (hF _ (by decide))), h.2.2.2.1, CP_st h.2.2.2.2 s hI hF⟩
theorem DEq_m {zx zm z2 : St} (h : DEq zx zm) (e22 : gI z2 22 = gI zm 22) (e14 : gF z2 14 = gF zm 14) (e15 : gF z2 15 = gF zm 15) : DEq zx z2 := by
  unfold DEq
  rw [e22, e14, e15]
  exact h
theorem RQ_m {zx zm z2 : St} (h : RQ zx zm) (e22 : gI z2 22 = gI zm 22) (e14 : gF z2 14 = gF zm 14) (e15 : gF z2 15 = gF zm 15) (e16 : gF z2 16 = gF zm 16) (e17 : gF z2 17 = gF zm 17) : RQ zx z2 := by
  unfold RQ Qm QR Bm
  rw [e22, e14, e15, e16, e17]
  exact h
theorem TD_m {zx zm z2 : St} {I F : List Nat} (h : TD zx zm) (s : Same I F zm z2) (h2 : 2 ∉ I) (h3 : 3 ∉ I) (h7 : 7 ∉ I) (g1 : 1 ∉ F) (g2 : 2 ∉ F) (g3 : 3 ∉ F) : TD zx z2 := by
  unfold TD
  intro t ht
  rw [PR_same s h3 h7 g1 g2 g3, s.1 2 h2]
  exact h t ht
theorem SE_m {zx zm z2 : St} {I F : List Nat} (h : SE zx zm) (s : Same I F zm z2) (hI : ∀ x ∈ [2, 8, 11, 12], x ∉ I) (hF : ∀ x ∈ [4, 5, 6, 7, 8, 9, 10], x ∉ F) : SE zx z2 := by
  unfold SE
  rw [s.1 2 (hI _ (by decide)), s.1 8 (hI _ (by decide)), s.1 11 (hI _ (by decide)), s.1 12 (hI _ (by decide)), s.2 4 (hF _ (by decide)), s.2 5 (hF _ (by decide)), s.2 6 (hF _ (by decide)), s.2 7 (hF _ (by decide)), s.2 8 (hF _ (by decide)), s.2 9 (hF _ (by decide)), s.2 10 (hF _ (by decide))]
  exact h
theorem BB_m {zm z2 : St} {I F : List Nat} (h : BB zm) (s : Same I F zm z2) (hI : ∀ x ∈ [7, 12], x ∉ I) (hF : ∀ x ∈ [2, 5, 9, 10], x ∉ F) : BB z2 := by
  unfold BB BD
  rw [s.1 7 (hI _ (by decide)), s.1 12 (hI _ (by decide)), s.2 2 (hF _ (by decide)), s.2 5 (hF _ (by decide)), s.2 9 (hF _ (by decide)), s.2 10 (hF _ (by decide))]
  exact h
/-- the reference moves beside what the relation speaks of -/
theorem XJ_m {zx zm z2 : St} {I F : List Nat} (h : XJ zx zm) (s : Same I F zm z2) (hI : ∀ x ∈ [2, 3, 7, 8, 11, 12, 21, 22], x ∉ I) (hF : ∀ x ∈ [1, 2, 3, 4, 5, 6, 7, 8, 9, 10, 11, 12, 13, 14, 15, 16, 17], x ∉ F) : XJ zx z2 := by
  have e22 := s.1 22 (hI _ (by decide))
  have e12 := s.1 12 (hI _ (by decide))
  have e14 := s.2 14 (hF _ (by decide))
  have e15 := s.2 15 (hF _ (by decide))
  have e16 := s.2 16 (hF _ (by decide))
  have e17 := s.2 17 (hF _ (by decide))
  have e11 := s.2 11 (hF _ (by decide))
  have e1b := s.2 12 (hF _ (by decide))
  obtain ⟨fr, de, rq, ⟨bb, wn, pl, pn, bz⟩, ⟨se, re, td, px, hs, hb⟩⟩ := h
  have bb2 : BB z2 := BB_m bb s (fun x hx => hI x (by revert x; decide)) (fun x hx => hF x (by revert x; decide))
  have de2 : DEq zx z2 := DEq_m de e22 e14 e15
  have rq2 : RQ zx z2 := RQ_m rq e22 e14 e15 e16 e17
  have td2 : TD zx z2 := TD_m td s (hI _ (by decide)) (hI _ (by decide)) (hI _ (by decide)) (hF _ (by decide)) (hF _ (by decide)) (hF _ (by decide))
  refine ⟨FR_m fr s (fun x hx => hI x (by revert x; decide)) (fun x hx => hF x (by revert x; decide)), de2, rq2, ⟨bb2, ?_, ?_, ?_, ?_⟩, ⟨SE_m se s (fun x hx => hI x (by revert x; decide)) (fun x hx => hF x (by revert x; decide)), RE_of rq2 de2 td2 bb2.2, td2, px, ?_, ?_⟩⟩
  · rw [s.2 7 (hF _ (by decide)), s.2 8 (hF _ (by decide))]; exact wn
  · unfold PLB; rw [e12, e11, e1b]; exact pl
  · rw [e12, e11, e1b, s.1 2 (hI _ (by decide))]; exact pn
  · rw [s.1 8 (hI _ (by decide)), s.2 5 (hF _ (by decide))]; exact bz
  · rw [e12, e11]; exact hs
  · rw [e12, e11, e1b]; exact hb
/-- a plan that both sides have made -/
theorem XJ_plan {zx zx1 zm zm1 : St} {st bg : Nat → Int32} {I F : List Nat} (h : XJ zx zm) (s : Same I F zx zx1) (hI : 3402 ∉ I) (hF : ∀ x ∈ [35, 36], x ∉ F) (cp : CP zx1 zm st bg) (cm : CM zm1 zm st bg) (hn : ∀ o : Nat, (o : Int) < (gI zm 12).toInt → st o = 1 → (gI zm 2).toInt ≤ (bg o).toInt) : XJ zx1 zm1 := by
  obtain ⟨t1, fr1, sm, a11, a12, abd⟩ := cm
  obtain ⟨fr, de, rq, ⟨bb, wn, pl, pn, bz⟩, _⟩ := h
  obtain ⟨se, re, td, px, hs, hb⟩ := cp
  have e12 : gI zm1 12 = gI zm 12 := sm.1 12 (by decide)
  have e2 : gI zm1 2 = gI zm 2 := sm.1 2 (by decide)
  have bb2 : BB zm1 := BB_m bb sm (by decide) (by decide)
  have de2 : DEq zx1 zm1 := DEq_m (DEq_x de (s.1 3402 hI)) (sm.1 22 (by decide)) (sm.2 14 (by decide)) (sm.2 15 (by decide))
  have rq2 : RQ zx1 zm1 := RQ_m (RQ_x rq (s.2 35 (hF _ (by decide))) (s.2 36 (hF _ (by decide)))) (sm.1 22 (by decide)) (sm.2 14 (by decide)) (sm.2 15 (by decide)) (sm.2 16 (by decide)) (sm.2 17 (by decide))
  have td2 : TD zx1 zm1 := TD_m td sm (by decide) (by decide) (by decide) (by decide) (by decide) (by decide)
  refine ⟨fr1, de2, rq2, ⟨bb2, ?_, fun o ho hz => ?_, fun o ho hz => ?_, ?_⟩, ⟨SE_m se sm (by decide) (by decide), RE_of rq2 de2 td2 bb2.2, td2, px, fun o ho => ?_, fun o ho hz => ?_⟩⟩
  · rw [sm.2 7 (by decide), sm.2 8 (by decide)]; exact wn
  · rw [e12] at ho
    rw [a11 o ho] at hz
    rw [a12 o ho hz]
    exact abd o ho hz
  · rw [e12] at ho
    rw [a11 o ho] at hz
    rw [a12 o ho (by rw [hz]; decide), e2]
    exact hn o ho hz
  · rw [sm.1 8 (by decide), sm.2 5 (by decide)]; exact bz
  · rw [e12] at ho
    rw [a11 o ho]; exact hs o ho
  · rw [e12] at ho
    rw [a11 o ho] at hz
    rw [a12 o ho hz]; exact hb o ho hz
/-- the reference's own plan, as it stands -/
theorem CM_self {zm : St} (tm : TM zm) (fr : FR zm) (pl : PLB zm (gF zm 11) (gF zm 12)) : CM zm zm (gF zm 11) (gF zm 12) := ⟨tm, fr, Same.rf, fun _ _ => rfl, fun _ _ _ => rfl, pl⟩
/-- every state is one of three -/
theorem XJ_h3 {zx zm : St} (tx : TX zx) (h : XJ zx zm) : ∀ o : Nat, (o : Int) < (gI zm 12).toInt → gF zm 11 o = 0 ∨ gF zm 11 o = 1 ∨ gF zm 11 o = 2 := by
  intro o ho
  have f : 0 ≤ (gF zx 19 o).toInt ∧ (gF zx 19 o).toInt ≤ 2 := tx.2 19 o
  rw [h.2.2.2.2.2.2.2.2.1 o ho] at f
  have e0 : (0 : Int32).toInt = 0 := rfl
  have e1 : (1 : Int32).toInt = 1 := rfl
  have e2 : (2 : Int32).toInt = 2 := rfl
  by_cases c0 : (gF zm 11 o).toInt = 0
  · exact Or.inl (toI_inj (by omega))
  · by_cases c1 : (gF zm 11 o).toInt = 1
    · exact Or.inr (Or.inl (toI_inj (by omega)))
    · exact Or.inr (Or.inr (toI_inj (by omega)))
theorem XJ_ct {zx zm : St} (tm : TM zm) (h : XJ zx zm) : ∀ j t : Nat, (j : Int) < (gI zm 12).toInt → -200000000 ≤ (ctM zm j t).toInt ∧ (ctM zm j t).toInt ≤ 200000000 := fun j t hj => (ct_eq (t := t) tm h.2.2.2.1.1.2 h.2.2.2.2 hj).2
