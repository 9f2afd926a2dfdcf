-- LOADS ONLY GROW: what two jobs leave each other
def sI (f : Nat → Int32) : Nat → Int
  | 0 => 0
  | n + 1 => sI f n + (f n).toInt
theorem sm_int {f : Nat → Int32} : ∀ n, n ≤ 16 → (∀ i, i < n → 0 ≤ (f i).toInt ∧ (f i).toInt ≤ 5000) → (sm f n).toInt = sI f n ∧ 0 ≤ sI f n ∧ sI f n ≤ 5000 * (n : Int) := by
  intro n
  induction n with
  | zero => intro _ _; exact ⟨rfl, Int.le_refl _, by show (0 : Int) ≤ 5000 * ((0 : Nat) : Int); decide⟩
  | succ n ih =>
    intro hn h
    obtain ⟨a, b, c⟩ := ih (by omega) (fun i hi => h i (by omega))
    have d := h n (by omega)
    have e : (sm f n + f n).toInt = sI f n + (f n).toInt := a_add a rfl (by omega) (by omega)
    refine ⟨e, ?_, ?_⟩
    · show 0 ≤ sI f n + (f n).toInt; omega
    · show sI f n + (f n).toInt ≤ _; omega
theorem sI_le {f g : Nat → Int32} : ∀ n, (∀ i, i < n → (f i).toInt ≤ (g i).toInt) → sI f n ≤ sI g n := by
  intro n
  induction n with
  | zero => intro _; exact Int.le_refl _
  | succ n ih =>
    intro h
    have a := ih (fun i hi => h i (by omega))
    have b := h n (by omega)
    show sI f n + (f n).toInt ≤ sI g n + (g n).toInt
    omega
/-- the bounds of what is told, and of plans st, bg -/
def BB (zm : St) : Prop := (∀ i, 0 ≤ (gF zm 5 i).toInt ∧ (gF zm 5 i).toInt ≤ 5000) ∧ BD zm
def PLB (zm : St) (st bg : Nat → Int32) : Prop := ∀ o : Nat, (o : Int) < (gI zm 12).toInt → ¬ st o = 0 → 0 ≤ (bg o).toInt ∧ (bg o).toInt ≤ 167
theorem drV_bd {zm : St} {st bg : Nat → Int32} {j t : Nat} (tm : TM zm) (bb : BB zm) (pb : PLB zm st bg) (hj : (j : Int) < (gI zm 12).toInt) (ht : t < 168) : 0 ≤ (drV (gF zm 9) (gF zm 10) st bg (nI j) (nI t)).toInt ∧ (drV (gF zm 9) (gF zm 10) st bg (nI j) (nI t)).toInt ≤ 5000 := by
  have f12 : 0 ≤ (gI zm 12).toInt ∧ (gI zm 12).toInt ≤ 16 := tm.1 12
  have z0 : (0 : Int32).toInt = 0 := rfl
  by_cases c : st j = 0
  · rw [drV_0 (by omega) c]; omega
  · rw [drV_dq (by omega) ht c (pb j hj c) (tm.2 9 _)]
    unfold dq
    by_cases e : (bg j).toInt ≤ (t : Int) ∧ (t : Int) < (bg j).toInt + (gF zm 9 j).toInt
    · rw [if_pos e]; exact bb.2.1 j _ hj (by omega)
    · rw [if_neg e]; omega
theorem tH_bd {zm : St} {st bg : Nat → Int32} {j t : Nat} {h : Int32} (tm : TM zm) (bb : BB zm) (pb : PLB zm st bg) (hj : (j : Int) < (gI zm 12).toInt) (ht : t < 168) : 0 ≤ (tH (gF zm 6) (gF zm 9) (gF zm 10) st bg h (nI t) j).toInt ∧ (tH (gF zm 6) (gF zm 9) (gF zm 10) st bg h (nI t) j).toInt ≤ 5000 := by
  have z0 : (0 : Int32).toInt = 0 := rfl
  unfold tH
  by_cases e : gF zm 6 j = h
  · rw [if_pos e]; exact drV_bd tm bb pb hj ht
  · rw [if_neg e]; omega
/-- plan st, bg is part of plan st', bg' -/
def Sub (zm : St) (st bg st' bg' : Nat → Int32) : Prop := ∀ o : Nat, (o : Int) < (gI zm 12).toInt → ¬ st o = 0 → ¬ st' o = 0 ∧ bg' o = bg o
theorem drV_le {zm : St} {st bg st' bg' : Nat → Int32} {j t : Nat} (tm : TM zm) (bb : BB zm) (pb : PLB zm st bg) (pb' : PLB zm st' bg') (sb : Sub zm st bg st' bg') (hj : (j : Int) < (gI zm 12).toInt) (ht : t < 168) : (drV (gF zm 9) (gF zm 10) st bg (nI j) (nI t)).toInt ≤ (drV (gF zm 9) (gF zm 10) st' bg' (nI j) (nI t)).toInt := by
  have f12 : 0 ≤ (gI zm 12).toInt ∧ (gI zm 12).toInt ≤ 16 := tm.1 12
  have z0 : (0 : Int32).toInt = 0 := rfl
  by_cases c : st j = 0
  · rw [drV_0 (by omega) c]
    have := (drV_bd tm bb pb' hj ht).1
    omega
  · obtain ⟨h1, h2⟩ := sb j hj c
    rw [drV_dq (by omega) ht c (pb j hj c) (tm.2 9 _), drV_dq (by omega) ht h1 (pb' j hj h1) (tm.2 9 _), h2]
    exact Int.le_refl _
/-- what is drawn at a home and by all, of a plan -/
def Hs (zm : St) (st bg : Nat → Int32) (h t : Nat) : Int32 := gF zm 5 (24 * h + t % 24) + sm (tH (gF zm 6) (gF zm 9) (gF zm 10) st bg (nI h) (nI t)) (gI zm 12).toNatClampNeg
def As (zm : St) (st bg : Nat → Int32) (t : Nat) : Int32 := sm (fun o => gF zm 5 (24 * o + t % 24)) (gI zm 8).toNatClampNeg + sm (fun j => drV (gF zm 9) (gF zm 10) st bg (nI j) (nI t)) (gI zm 12).toNatClampNeg
theorem Hs_int {zm : St} {st bg : Nat → Int32} {h t : Nat} (tm : TM zm) (bb : BB zm) (pb : PLB zm st bg) (ht : t < 168) : (Hs zm st bg h t).toInt = (gF zm 5 (24 * h + t % 24)).toInt + sI (tH (gF zm 6) (gF zm 9) (gF zm 10) st bg (nI h) (nI t)) (gI zm 12).toNatClampNeg ∧ 0 ≤ (Hs zm st bg h t).toInt ∧ (Hs zm st bg h t).toInt ≤ 100000 := by
  have f12 : 0 ≤ (gI zm 12).toInt ∧ (gI zm 12).toInt ≤ 16 := tm.1 12
  have c12 := clampN f12.1
  have a := sm_int (f := tH (gF zm 6) (gF zm 9) (gF zm 10) st bg (nI h) (nI t)) (gI zm 12).toNatClampNeg (by omega) (fun i hi => tH_bd tm bb pb (by omega) ht)
  have b := bb.1 (24 * h + t % 24)
  have e : (Hs zm st bg h t).toInt = (gF zm 5 (24 * h + t % 24)).toInt + sI (tH (gF zm 6) (gF zm 9) (gF zm 10) st bg (nI h) (nI t)) (gI zm 12).toNatClampNeg := a_add rfl a.1 (by omega) (by omega)
  exact ⟨e, by omega, by omega⟩
theorem As_int {zm : St} {st bg : Nat → Int32} {t : Nat} (tm : TM zm) (bb : BB zm) (pb : PLB zm st bg) (ht : t < 168) : (As zm st bg t).toInt = sI (fun o => gF zm 5 (24 * o + t % 24)) (gI zm 8).toNatClampNeg + sI (fun j => drV (gF zm 9) (gF zm 10) st bg (nI j) (nI t)) (gI zm 12).toNatClampNeg ∧ 0 ≤ (As zm st bg t).toInt ∧ (As zm st bg t).toInt ≤ 200000 := by
  have f12 : 0 ≤ (gI zm 12).toInt ∧ (gI zm 12).toInt ≤ 16 := tm.1 12
  have c12 := clampN f12.1
  have f8 : 0 ≤ (gI zm 8).toInt ∧ (gI zm 8).toInt ≤ 4 := tm.1 8
  have c8 := clampN f8.1
  have a := sm_int (f := fun j => drV (gF zm 9) (gF zm 10) st bg (nI j) (nI t)) (gI zm 12).toNatClampNeg (by omega) (fun i hi => drV_bd tm bb pb (by omega) ht)
  have b := sm_int (f := fun o => gF zm 5 (24 * o + t % 24)) (gI zm 8).toNatClampNeg (by omega) (fun i hi => bb.1 _)
  have e : (As zm st bg t).toInt = sI (fun o => gF zm 5 (24 * o + t % 24)) (gI zm 8).toNatClampNeg + sI (fun j => drV (gF zm 9) (gF zm 10) st bg (nI j) (nI t)) (gI zm 12).toNatClampNeg := a_add b.1 a.1 (by omega) (by omega)
  exact ⟨e, by omega, by omega⟩
theorem Hs_le {zm : St} {st bg st' bg' : Nat → Int32} {h t : Nat} (tm : TM zm) (bb : BB zm) (pb : PLB zm st bg) (pb' : PLB zm st' bg') (sb : Sub zm st bg st' bg') (ht : t < 168) : (Hs zm st bg h t).toInt ≤ (Hs zm st' bg' h t).toInt := by
  have f12 : 0 ≤ (gI zm 12).toInt ∧ (gI zm 12).toInt ≤ 16 := tm.1 12
  have c12 := clampN f12.1
  rw [(Hs_int tm bb pb ht).1, (Hs_int tm bb pb' ht).1]
  have := sI_le (f := tH (gF zm 6) (gF zm 9) (gF zm 10) st bg (nI h) (nI t)) (g := tH (gF zm 6) (gF zm 9) (gF zm 10) st' bg' (nI h) (nI t)) (gI zm 12).toNatClampNeg (fun i hi => by
    unfold tH
    by_cases e : gF zm 6 i = nI h
    · rw [if_pos e, if_pos e]; exact drV_le tm bb pb pb' sb (by omega) ht
    · rw [if_neg e, if_neg e]; exact Int.le_refl _)
  omega
theorem As_le {zm : St} {st bg st' bg' : Nat → Int32} {t : Nat} (tm : TM zm) (bb : BB zm) (pb : PLB zm st bg) (pb' : PLB zm st' bg') (sb : Sub zm st bg st' bg') (ht : t < 168) : (As zm st bg t).toInt ≤ (As zm st' bg' t).toInt := by
  have f12 : 0 ≤ (gI zm 12).toInt ∧ (gI zm 12).toInt ≤ 16 := tm.1 12
  have c12 := clampN f12.1
  rw [(As_int tm bb pb ht).1, (As_int tm bb pb' ht).1]
  have := sI_le (f := fun j => drV (gF zm 9) (gF zm 10) st bg (nI j) (nI t)) (g := fun j => drV (gF zm 9) (gF zm 10) st' bg' (nI j) (nI t)) (gI zm 12).toNatClampNeg (fun i hi => drV_le tm bb pb pb' sb (by omega) ht)
  omega
theorem Fg_s {zm : St} {st bg : Nat → Int32} {j t : Nat} (tm : TM zm) (hj : (j : Int) < (gI zm 12).toInt) (hs : st j = 0) (ht : t < 168) : Fg zm st bg j t = Hs zm st bg (gF zm 6 j).toNatClampNeg t := by
  have f12 : 0 ≤ (gI zm 12).toInt ∧ (gI zm 12).toInt ≤ 16 := tm.1 12
  have c12 := clampN f12.1
  have f6 : 0 ≤ (gF zm 6 j).toInt ∧ (gF zm 6 j).toInt ≤ 3 := tm.2 6 _
  unfold Fg Hs
  rw [ldF_sm (by omega) (fun m hm e => by
    have : m = j := by
      have h1 : (nI m).toInt = (m : Int) := nI_toInt (by omega)
      have h2 : (nI j).toInt = (j : Int) := nI_toInt (by omega)
      rw [e] at h1; omega
    rw [this]; exact hs), ix_cl f6 ht, ← nI_cl f6.1]
theorem Ag_s {zm : St} {st bg : Nat → Int32} {j t : Nat} (tm : TM zm) (hh : ∀ j : Nat, (j : Int) < (gI zm 12).toInt → (gF zm 6 j).toInt < (gI zm 8).toInt) (hj : (j : Int) < (gI zm 12).toInt) (hs : st j = 0) (ht : t < 168) : Ag zm st bg j t = As zm st bg t := by
  have f12 : 0 ≤ (gI zm 12).toInt ∧ (gI zm 12).toInt ≤ 16 := tm.1 12
  have c12 := clampN f12.1
  have f8 : 0 ≤ (gI zm 8).toInt ∧ (gI zm 8).toInt ≤ 4 := tm.1 8
  have c8 := clampN f8.1
  unfold Ag As
  rw [amG_sm]
  have e1 : ∀ o, o < (gI zm 8).toNatClampNeg → ldF (gF zm 5) (gF zm 6) (gF zm 9) (gF zm 10) st bg (nI o) (nI t) (nI j) (gI zm 12).toNatClampNeg = gF zm 5 (24 * o + t % 24) + sm (tH (gF zm 6) (gF zm 9) (gF zm 10) st bg (nI o) (nI t)) (gI zm 12).toNatClampNeg := by
    intro o ho
    have io : (nI o).toInt = (o : Int) := nI_toInt (by omega)
    rw [ldF_sm (by omega) (fun m hm e => by
      have : m = j := by
        have h1 : (nI m).toInt = (m : Int) := nI_toInt (by omega)
        have h2 : (nI j).toInt = (j : Int) := nI_toInt (by omega)
        rw [e] at h1; omega
      rw [this]; exact hs), ix_cl (by omega) ht, nI_clamp (by omega)]
  rw [sm_congr e1, sm_add]
  congr 1
  unfold tH
  rw [sm_swap]
  refine sm_congr (fun m hm => ?_)
  have hm' := hh m (by omega)
  have f6 : 0 ≤ (gF zm 6 m).toInt ∧ (gF zm 6 m).toInt ≤ 3 := tm.2 6 _
  have c6 := clampN f6.1
  have e2 : ∀ o, o < (gI zm 8).toNatClampNeg → (if gF zm 6 m = nI o then drV (gF zm 9) (gF zm 10) st bg (nI m) (nI t) else 0) = (if o = (gF zm 6 m).toNatClampNeg then drV (gF zm 9) (gF zm 10) st bg (nI m) (nI t) else 0) := by
    intro o ho
    by_cases e : o = (gF zm 6 m).toNatClampNeg
    · rw [if_pos e, if_pos (by rw [e]; exact nI_cl f6.1)]
    · rw [if_neg e, if_neg (fun q => e (by rw [q, nI_clamp (by omega)]))]
  rw [sm_congr e2, sm_one (by omega)]
