-- RELATIONS of the search: every offered place lies within the hours
def OKp (z : St) (i : Nat) (p : Int32) : Prop := (gF z 15 (gF z 23 i).toNatClampNeg).toInt + p.toInt ≤ 167 ∧ (gF z 15 (gF z 23 i).toNatClampNeg).toInt + p.toInt + (gF z 17 (gF z 23 i).toNatClampNeg).toInt ≤ 168
theorem OKp_same {I F : List Nat} {z z1 : St} {i : Nat} {p : Int32} (h : OKp z i p) (s : Same I F z z1) (h15 : 15 ∉ F) (h17 : 17 ∉ F) (h23 : 23 ∉ F) : OKp z1 i p := by
  unfold OKp
  rw [s.2 15 h15, s.2 17 h17, s.2 23 h23]
  exact h
def FS (z : St) : Prop := ∀ i a : Nat, i < 5 → (a : Int) < (gF z 25 i).toInt → OKp z i (gF z 26 (24 * i + a)) ∧ OKp z i (gF z 27 (24 * i + a))
theorem FS_same {I F : List Nat} {z z1 : St} (h : FS z) (s : Same I F z z1) (h15 : 15 ∉ F) (h17 : 17 ∉ F) (h23 : 23 ∉ F) (h25 : 25 ∉ F) (h26 : 26 ∉ F) (h27 : 27 ∉ F) : FS z1 := by
  unfold FS OKp
  rw [s.2 15 h15, s.2 17 h17, s.2 23 h23, s.2 25 h25, s.2 26 h26, s.2 27 h27]
  exact h
theorem clampN {x : Int32} (h : 0 ≤ x.toInt) : (x.toNatClampNeg : Int) = x.toInt := by
  show ((x.toInt.toNat : Nat) : Int) = x.toInt
  omega
theorem FS_pl {z : St} (h : FS z) {i a x : Int32} (hx : x.toInt = i.toInt * 24 + a.toInt) (h0 : 0 ≤ i.toInt) (h1 : i.toInt ≤ 4) (h2 : 0 ≤ a.toInt) (h3 : a.toInt < (gF z 25 i.toNatClampNeg).toInt) : OKp z i.toNatClampNeg (gF z 26 x.toNatClampNeg) ∧ OKp z i.toNatClampNeg (gF z 27 x.toNatClampNeg) := by
  have c1 := clampN h0
  have c2 := clampN h2
  have c3 := clampN (x := x) (by omega)
  have := h i.toNatClampNeg a.toNatClampNeg (by omega) (by omega)
  rw [show x.toNatClampNeg = 24 * i.toNatClampNeg + a.toNatClampNeg by omega]
  exact this
theorem FS_at {z : St} (h : FS z) {i a x : Int32} (hx : x.toInt = i.toInt * 24 + a.toInt) (h0 : 0 ≤ i.toInt) (h1 : i.toInt ≤ 4) (h2 : 0 ≤ a.toInt) (h3 : a.toInt < (gF z 25 i.toNatClampNeg).toInt) : (gF z 15 (gF z 23 i.toNatClampNeg).toNatClampNeg).toInt + (gF z 26 x.toNatClampNeg).toInt + (gF z 17 (gF z 23 i.toNatClampNeg).toNatClampNeg).toInt ≤ 168 ∧ (gF z 15 (gF z 23 i.toNatClampNeg).toNatClampNeg).toInt + (gF z 27 x.toNatClampNeg).toInt + (gF z 17 (gF z 23 i.toNatClampNeg).toNatClampNeg).toInt ≤ 168 :=
  ⟨(FS_pl h hx h0 h1 h2 h3).1.2, (FS_pl h hx h0 h1 h2 h3).2.2⟩
-- the reference's windows
def RM (z : St) : Prop := ∀ i : Nat, (gF z 8 i).toInt - (gF z 7 i).toInt ≤ 23
theorem RM_same {I F : List Nat} {z z1 : St} (h : RM z) (s : Same I F z z1) (h7 : 7 ∉ F) (h8 : 8 ∉ F) : RM z1 := by
  unfold RM
  rw [s.2 7 h7, s.2 8 h8]
  exact h
theorem RM_job {z z1 z2 : St} {i k a b : Int32} (h : RM z) (e1 : z1 = wR z 7 (upd (gF z 7) i.toNatClampNeg a)) (e2 : z2 = wR z1 8 (upd (gF z1 8) k.toNatClampNeg b)) (hik : k = i) (hw : b.toInt - a.toInt ≤ 23) : RM z2 := by
  subst hik; subst e1; subst e2
  intro j
  have g7 : gF (wR (wR z 7 (upd (gF z 7) k.toNatClampNeg a)) 8 (upd (gF (wR z 7 (upd (gF z 7) k.toNatClampNeg a)) 8) k.toNatClampNeg b)) 7 j = if j = k.toNatClampNeg then a else gF z 7 j := gF_upd (z := z) (k := 7)
  rw [gF_upd, g7]
  by_cases e : j = k.toNatClampNeg
  · rw [if_pos e, if_pos e]; exact hw
  · rw [if_neg e, if_neg e]; exact h j
