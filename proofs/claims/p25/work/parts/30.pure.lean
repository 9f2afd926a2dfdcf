-- PURE: bounds of numbers, typed states
theorem a_add {x y : Int32} {p q : Int} (hx : x.toInt = p) (hy : y.toInt = q) (h1 : -2147483648 ≤ p + q) (h2 : p + q < 2147483648) : (x + y).toInt = p + q := by
  subst hx; subst hy
  rw [Int32.toInt_add]; exact Int.bmod_eq_of_le (by omega) (by omega)
theorem a_sub {x y : Int32} {p q : Int} (hx : x.toInt = p) (hy : y.toInt = q) (h1 : -2147483648 ≤ p - q) (h2 : p - q < 2147483648) : (x - y).toInt = p - q := by
  subst hx; subst hy
  rw [Int32.toInt_sub]; exact Int.bmod_eq_of_le (by omega) (by omega)
theorem a_mul {x y : Int32} {p q : Int} (hx : x.toInt = p) (hy : y.toInt = q) (h1 : -2147483648 ≤ p * q) (h2 : p * q < 2147483648) : (x * y).toInt = p * q := by
  subst hx; subst hy
  rw [Int32.toInt_mul]; exact Int.bmod_eq_of_le (by omega) (by omega)
theorem a_neg {x : Int32} {p : Int} (hx : x.toInt = p) (h1 : -2147483648 ≤ -p) (h2 : -p < 2147483648) : (-x).toInt = -p := by
  subst hx
  rw [Int32.toInt_neg]; exact Int.bmod_eq_of_le (by omega) (by omega)
theorem a_addL {x y : Int64} {p q : Int} (hx : x.toInt = p) (hy : y.toInt = q) (h1 : -9223372036854775808 ≤ p + q) (h2 : p + q < 9223372036854775808) : (x + y).toInt = p + q := by
  subst hx; subst hy
  rw [Int64.toInt_add]; exact Int.bmod_eq_of_le (by omega) (by omega)
theorem a_subL {x y : Int64} {p q : Int} (hx : x.toInt = p) (hy : y.toInt = q) (h1 : -9223372036854775808 ≤ p - q) (h2 : p - q < 9223372036854775808) : (x - y).toInt = p - q := by
  subst hx; subst hy
  rw [Int64.toInt_sub]; exact Int.bmod_eq_of_le (by omega) (by omega)
theorem a_wide {x : Int32} {p : Int} (hx : x.toInt = p) : (Int32.toInt64 x).toInt = p := by
  rw [Int32.toInt_toInt64]; exact hx
theorem a_rng (x : Int32) : -2147483648 ≤ x.toInt ∧ x.toInt < 2147483648 := ⟨Int32.le_toInt x, Int32.toInt_lt x⟩
theorem a_rem {x y : Int32} {p : Int} (hx : x.toInt = p) (h0 : 0 ≤ p) (hy : y = 24) : (x - x / y * y).toInt = p % 24 := by
  subst hy
  obtain ⟨j, hj, rfl⟩ := nI_of (x := x) (fun h => by have := Int32.lt_iff_toInt_lt.mp h; have e0 : (0 : Int32).toInt = 0 := rfl; omega)
  have e1 : nI j - nI j / nI 24 * nI 24 = nI (j % 24) := pk_rem hj (by omega) (by omega)
  rw [show (24 : Int32) = nI 24 from rfl, e1, nI_toInt (by omega)]
  rw [nI_toInt hj] at hx
  omega
theorem a_max {x y n : Int32} {p q : Int} (hx : x.toInt = p) (hy : y.toInt = q) (h : n = (if x < y then y else x)) : p ≤ n.toInt ∧ q ≤ n.toInt ∧ (n.toInt = p ∨ n.toInt = q) := by
  subst hx; subst hy; subst h
  by_cases c : x < y
  · rw [if_pos c]; have := Int32.lt_iff_toInt_lt.mp c; omega
  · rw [if_neg c]; have := Int32.le_iff_toInt_le.mp (Int32.not_lt.mp c); omega
theorem a_min {x y n : Int32} {p q : Int} (hx : x.toInt = p) (hy : y.toInt = q) (h : n = (if y < x then y else x)) : n.toInt ≤ p ∧ n.toInt ≤ q ∧ (n.toInt = p ∨ n.toInt = q) := by
  subst hx; subst hy; subst h
  by_cases c : y < x
  · rw [if_pos c]; have := Int32.lt_iff_toInt_lt.mp c; omega
  · rw [if_neg c]; have := Int32.le_iff_toInt_le.mp (Int32.not_lt.mp c); omega
theorem vin {x : Int32} {p : Int} {n : Nat} (h : x.toInt = p) (h0 : 0 ≤ p) (h1 : p < n) : vp_in x n := vp_in_iff.mpr (by omega)
section Cmp
variable {x y : Int32} {p q : Int}
theorem i_lt (hx : x.toInt = p) (hy : y.toInt = q) (h : x < y) : p < q := by subst hx; subst hy; exact Int32.lt_iff_toInt_lt.mp h
theorem i_nlt (hx : x.toInt = p) (hy : y.toInt = q) (h : ¬ x < y) : q ≤ p := by subst hx; subst hy; exact Int32.le_iff_toInt_le.mp (Int32.not_lt.mp h)
theorem i_le (hx : x.toInt = p) (hy : y.toInt = q) (h : x ≤ y) : p ≤ q := by subst hx; subst hy; exact Int32.le_iff_toInt_le.mp h
theorem i_nle (hx : x.toInt = p) (hy : y.toInt = q) (h : ¬ x ≤ y) : q < p := by subst hx; subst hy; exact Int32.lt_iff_toInt_lt.mp (Int32.not_le.mp h)
theorem i_eq (hx : x.toInt = p) (hy : y.toInt = q) (h : x = y) : p = q := by subst hx; subst hy; rw [h]
theorem i_ne (hx : x.toInt = p) (hy : y.toInt = q) (h : ¬ x = y) : p ≠ q := by subst hx; subst hy; exact fun e => h (Int32.toInt_inj.mp e)
end Cmp
def Ty (oI : Nat → Int32 → Prop) (oF : Nat → Nat → Int32 → Prop) (z : St) : Prop := (∀ j, oI j (gI z j)) ∧ ∀ k i, oF k i (gF z k i)
section TyRows
variable {oI : Nat → Int32 → Prop} {oF : Nat → Nat → Int32 → Prop} {z : St}
theorem Ty_wI {j : Nat} {v : Int32} (h : Ty oI oF z) (hv : oI j v) : Ty oI oF (wI z j v) := by
  refine ⟨fun k => ?_, h.2⟩
  show oI k (va_up z.1 j v k)
  unfold va_up
  by_cases e : k = j
  · rw [if_pos e, e]; exact hv
  · rw [if_neg e]; exact h.1 k
theorem Ty_wJ {j : Nat} {v : Int64} (h : Ty oI oF z) : Ty oI oF (wJ z j v) := ⟨h.1, h.2⟩
theorem Ty_wL {j : Nat} {f : Nat → Int64} (h : Ty oI oF z) : Ty oI oF (wL z j f) := ⟨h.1, h.2⟩
theorem Ty_wRf {k : Nat} {f : Nat → Int32} (h : Ty oI oF z) (hf : ∀ i, oF k i (f i)) : Ty oI oF (wR z k f) := by
  refine ⟨h.1, fun m i => ?_⟩
  show oF m i (va_up z.2.1 k f m i)
  unfold va_up
  by_cases e : m = k
  · rw [if_pos e, e]; exact hf i
  · rw [if_neg e]; exact h.2 m i
theorem Ty_wR {k i : Nat} {v : Int32} (h : Ty oI oF z) (hv : oF k i v) : Ty oI oF (wR z k (upd (gF z k) i v)) := by
  refine Ty_wRf h (fun n => ?_)
  unfold upd
  by_cases e : n = i
  · rw [if_pos e, e]; exact hv
  · rw [if_neg e]; exact h.2 k n
end TyRows
-- FOOTPRINTS: all but the int fields I and the int rows F is as it was
def Same (I F : List Nat) (z z' : St) : Prop := (∀ j, j ∉ I → gI z' j = gI z j) ∧ ∀ k, k ∉ F → gF z' k = gF z k
section SameRows
variable {I F I' F' : List Nat} {z z0 z1 z2 : St}
theorem Same.rf : Same I F z z := ⟨fun _ _ => rfl, fun _ _ => rfl⟩
theorem Same.i {j : Nat} {v : Int32} (h : Same I F z z0) (hj : j ∈ I) (e : z1 = wI z0 j v) : Same I F z z1 := by
  subst e
  refine ⟨fun k hk => ?_, h.2⟩
  show va_up z0.1 j v k = _
  unfold va_up
  rw [if_neg (show ¬ k = j from fun e => hk (by rw [e]; exact hj))]
  exact h.1 k hk
theorem Same.r {j : Nat} {f : Nat → Int32} (h : Same I F z z0) (hj : j ∈ F) (e : z1 = wR z0 j f) : Same I F z z1 := by
  subst e
  refine ⟨h.1, fun k hk => ?_⟩
  show va_up z0.2.1 j f k = _
  unfold va_up
  rw [if_neg (show ¬ k = j from fun e => hk (by rw [e]; exact hj))]
  exact h.2 k hk
theorem Same.j {j : Nat} {v : Int64} (h : Same I F z z0) (e : z1 = wJ z0 j v) : Same I F z z1 := by subst e; exact h
theorem Same.l {j : Nat} {f : Nat → Int64} (h : Same I F z z0) (e : z1 = wL z0 j f) : Same I F z z1 := by subst e; exact h
theorem Same.tr (h : Same I F z z1) (h2 : Same I' F' z1 z2) (hI : ∀ x ∈ I', x ∈ I) (hF : ∀ x ∈ F', x ∈ F) : Same I F z z2 :=
  ⟨fun j hj => (h2.1 j (fun q => hj (hI j q))).trans (h.1 j hj), fun k hk => (h2.2 k (fun q => hk (hF k q))).trans (h.2 k hk)⟩
theorem Same.fi (h : Same I F z z1) (j : Nat) (hj : j ∉ I) : (gI z1 j).toInt = (gI z j).toInt := by rw [h.1 j hj]
theorem Same.ff (h : Same I F z z1) (k i : Nat) (hk : k ∉ F) : (gF z1 k i).toInt = (gF z k i).toInt := by rw [h.2 k hk]
end SameRows
theorem gF_upd {z : St} {k i j : Nat} {v : Int32} : gF (wR z k (upd (gF z k) i v)) k j = if j = i then v else gF z k j := by
  show va_up z.2.1 k (upd (gF z k) i v) k j = _
  unfold va_up
  rw [if_pos rfl]
  rfl
theorem clampI {x : Int32} {n : Nat} (h : vp_in x n) : (x.toNatClampNeg : Int) = x.toInt := by
  have h1 := vp_in_iff.mp h
  show ((x.toInt.toNat : Nat) : Int) = x.toInt
  omega
