-- RELATIONS of the class's jobs
def RX (z : St) : Prop := (∀ i : Nat, (gF z 19 i).toInt = 0 ∨ (0 ≤ (gF z 20 i).toInt ∧ (gF z 20 i).toInt + (gF z 17 i).toInt ≤ 168)) ∧ (∀ i : Nat, (gF z 16 i).toInt - (gF z 15 i).toInt ≤ 23) ∧ (∀ i : Nat, (gI z 1308).toInt ≤ i → (gF z 19 i).toInt = 0) ∧ (∀ i : Nat, (i : Int) < (gI z 1308).toInt → (gF z 19 i).toInt = 0 → (gF z 20 i).toInt = -1)
theorem RX_same {I F : List Nat} {z z1 : St} (h : RX z) (s : Same I F z z1) (hI : 1308 ∉ I) (h15 : 15 ∉ F) (h16 : 16 ∉ F) (h17 : 17 ∉ F) (h19 : 19 ∉ F) (h20 : 20 ∉ F) : RX z1 := by
  unfold RX
  rw [s.1 1308 hI, s.2 15 h15, s.2 16 h16, s.2 17 h17, s.2 19 h19, s.2 20 h20]
  exact h
theorem RX_state0 {z : St} {i : Nat} (h : RX z) (hb : (gF z 20 i).toInt = -1 ∨ (gI z 1308).toInt ≤ i) : RX (wR z 19 (upd (gF z 19) i 0)) := by
  have e0 : (0 : Int32).toInt = 0 := rfl
  refine ⟨fun j => ?_, h.2.1, fun j hj => ?_, fun j hj hs => ?_⟩
  · rw [gF_upd]; by_cases e : j = i
    · rw [if_pos e]; exact Or.inl e0
    · rw [if_neg e]; exact h.1 j
  · rw [gF_upd]; by_cases e : j = i
    · rw [if_pos e]; exact e0
    · rw [if_neg e]; exact h.2.2.1 j hj
  · rw [gF_upd] at hs
    show (gF z 20 j).toInt = -1
    by_cases e : j = i
    · subst e
      rcases hb with hb | hb
      · exact hb
      · have hj' : (j : Int) < (gI z 1308).toInt := hj
        omega
    · rw [if_neg e] at hs; exact h.2.2.2 j hj hs
/-- a job is opened: its state, then its hour -/
theorem RX_open {z : St} {i : Nat} (h : RX z) : RX (wR (wR z 19 (upd (gF z 19) i 0)) 20 (upd (gF (wR z 19 (upd (gF z 19) i 0)) 20) i (-1))) := by
  have e0 : (0 : Int32).toInt = 0 := rfl
  have e1 : (-1 : Int32).toInt = -1 := rfl
  have g19 : ∀ j, gF (wR (wR z 19 (upd (gF z 19) i 0)) 20 (upd (gF (wR z 19 (upd (gF z 19) i 0)) 20) i (-1))) 19 j = if j = i then 0 else gF z 19 j := fun j => gF_upd (z := z) (k := 19)
  have g20 : ∀ j, gF (wR (wR z 19 (upd (gF z 19) i 0)) 20 (upd (gF (wR z 19 (upd (gF z 19) i 0)) 20) i (-1))) 20 j = if j = i then -1 else gF z 20 j := fun j => by rw [gF_upd]; rfl
  refine ⟨fun j => ?_, h.2.1, fun j hj => ?_, fun j hj hs => ?_⟩
  · rw [g19, g20]; by_cases e : j = i
    · rw [if_pos e]; exact Or.inl e0
    · rw [if_neg e, if_neg e]; exact h.1 j
  · rw [g19]; by_cases e : j = i
    · rw [if_pos e]; exact e0
    · rw [if_neg e]; exact h.2.2.1 j hj
  · rw [g19] at hs; rw [g20]
    by_cases e : j = i
    · rw [if_pos e]; exact e1
    · rw [if_neg e] at hs; rw [if_neg e]; exact h.2.2.2 j hj hs
theorem RX_plan {z : St} {i : Nat} {v : Int32} (h : RX z) (hi : (i : Int) < (gI z 1308).toInt) (h0 : 0 ≤ v.toInt) (h1 : v.toInt + (gF z 17 i).toInt ≤ 168) : RX (wR (wR z 19 (upd (gF z 19) i 1)) 20 (upd (gF (wR z 19 (upd (gF z 19) i 1)) 20) i v)) := by
  have e1 : (1 : Int32).toInt = 1 := rfl
  have g19 : ∀ j, gF (wR (wR z 19 (upd (gF z 19) i 1)) 20 (upd (gF (wR z 19 (upd (gF z 19) i 1)) 20) i v)) 19 j = if j = i then 1 else gF z 19 j := fun j => gF_upd (z := z) (k := 19)
  have g20 : ∀ j, gF (wR (wR z 19 (upd (gF z 19) i 1)) 20 (upd (gF (wR z 19 (upd (gF z 19) i 1)) 20) i v)) 20 j = if j = i then v else gF z 20 j := fun j => by rw [gF_upd]; rfl
  refine ⟨fun j => ?_, h.2.1, fun j hj => ?_, fun j hj hs => ?_⟩
  · rw [g19, g20]; by_cases e : j = i
    · subst e; rw [if_pos rfl, if_pos rfl]; exact Or.inr ⟨h0, h1⟩
    · rw [if_neg e, if_neg e]; exact h.1 j
  · rw [g19]; by_cases e : j = i
    · have hj' : (gI z 1308).toInt ≤ j := hj
      omega
    · rw [if_neg e]; exact h.2.2.1 j hj
  · rw [g19] at hs; rw [g20]
    by_cases e : j = i
    · rw [if_pos e, e1] at hs; omega
    · rw [if_neg e] at hs; rw [if_neg e]; exact h.2.2.2 j hj hs
theorem RX_done {z : St} {i : Nat} (h : RX z) (hs : (gF z 19 i).toInt = 1) : RX (wR z 19 (upd (gF z 19) i 2)) := by
  have e2 : (2 : Int32).toInt = 2 := rfl
  refine ⟨fun j => ?_, h.2.1, fun j hj => ?_, fun j hj hs2 => ?_⟩
  · rw [gF_upd]; by_cases e : j = i
    · subst e
      rcases h.1 j with q | q
      · omega
      · exact Or.inr q
    · rw [if_neg e]; exact h.1 j
  · rw [gF_upd]; by_cases e : j = i
    · subst e
      have := h.2.2.1 j hj
      omega
    · rw [if_neg e]; exact h.2.2.1 j hj
  · rw [gF_upd] at hs2
    by_cases e : j = i
    · rw [if_pos e, e2] at hs2; omega
    · rw [if_neg e] at hs2; exact h.2.2.2 j hj hs2
