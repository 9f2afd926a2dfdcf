-- BITS (the first rows turned from the kit's BITS.to-paste)
def gb (x : Int32) (i : Nat) : Bool := x.toBitVec.getLsbD i
theorem gb_ext {x y : Int32} (h : ∀ i, i < 32 → gb x i = gb y i) : x = y := Int32.toBitVec_inj.mp (BitVec.eq_of_getLsbD_eq (fun i hi => h i hi))
theorem gb_or (x y : Int32) (i : Nat) : gb (x ||| y) i = (gb x i || gb y i) := by unfold gb; rw [Int32.toBitVec_or, BitVec.getLsbD_or]
theorem gb_and (x y : Int32) (i : Nat) : gb (x &&& y) i = (gb x i && gb y i) := by unfold gb; rw [Int32.toBitVec_and, BitVec.getLsbD_and]
theorem gb_xor (x y : Int32) (i : Nat) : gb (x ^^^ y) i = (gb x i ^^ gb y i) := by unfold gb; rw [Int32.toBitVec_xor, BitVec.getLsbD_xor]
theorem gb_m1 : ∀ i, i < 32 → gb (-1) i = true := by decide +kernel
theorem gb_0 (i : Nat) : gb 0 i = false := BitVec.getLsbD_zero
theorem gb_1 : ∀ i, i < 32 → gb 1 i = decide (i = 0) := by decide +kernel
theorem gs_l : ∀ n, n < 32 → ((nI n &&& 31).toBitVec.smod 32).toNat = n := by decide +kernel
theorem gb_shl (n : Nat) (hn : n < 32) (x : Int32) {i : Nat} (hi : i < 32) : gb (x <<< (nI n &&& 31)) i = (decide (n ≤ i) && gb x (i - n)) := by
  unfold gb
  rw [Int32.toBitVec_shiftLeft]
  show (x.toBitVec <<< ((nI n &&& 31).toBitVec.smod 32).toNat).getLsbD i = _
  rw [gs_l n hn, BitVec.getLsbD_shiftLeft]
  rcases Nat.lt_or_ge i n with h | h
  · simp [h, Nat.not_le.mpr h]
  · simp [hi, h, Nat.not_lt.mpr h]
theorem gb_sshr (n : Nat) (hn : n < 32) (x : Int32) {i : Nat} (hi : i < 32) : gb (x >>> (nI n &&& 31)) i = if n + i < 32 then gb x (n + i) else gb x 31 := by
  unfold gb
  rw [Int32.toBitVec_shiftRight]
  show (x.toBitVec.sshiftRight ((nI n &&& 31).toBitVec.smod 32).toNat).getLsbD i = _
  rw [gs_l n hn, BitVec.getLsbD_sshiftRight, BitVec.msb_eq_getLsbD_last]
  simp [hi]
theorem bt_gb {x : Int32} {p : Nat} (hp : p < 32) : bt x (nI p) ↔ gb x p = true := by
  have h0 : gb (x >>> (nI p &&& 31)) 0 = gb x p := by rw [gb_sshr p hp x (by omega), if_pos (by omega), Nat.add_zero]
  unfold bt
  constructor
  · intro h
    by_cases e : gb x p = true
    · exact e
    · refine absurd (gb_ext (fun i hi => ?_)) h
      rw [gb_and, gb_1 i hi, gb_0]
      by_cases ei : i = 0
      · subst ei
        rw [h0]
        cases hc : gb x p
        · rfl
        · exact absurd hc e
      · rw [decide_eq_false ei, Bool.and_false]
  · intro h e
    have : gb ((x >>> (nI p &&& 31)) &&& 1) 0 = gb (0 : Int32) 0 := by rw [e]
    rw [gb_and, h0, h, gb_1 0 (by omega), gb_0] at this
    exact absurd this (by decide)
theorem gb_one {q p : Nat} (hq : q < 32) (hp : p < 32) : gb ((1 : Int32) <<< (nI q &&& 31)) p = decide (p = q) := by
  rw [gb_shl q hq 1 hp]
  by_cases e : q ≤ p
  · rw [decide_eq_true e, Bool.true_and, gb_1 _ (by omega)]
    by_cases e2 : p = q
    · rw [decide_eq_true e2, decide_eq_true (by omega)]
    · rw [decide_eq_false e2, decide_eq_false (by omega)]
  · rw [decide_eq_false e, Bool.false_and, decide_eq_false (by omega)]
theorem bt_set {x : Int32} {q p : Nat} (hq : q < 32) (hp : p < 32) : bt (x ||| ((1 : Int32) <<< (nI q &&& 31))) (nI p) ↔ bt x (nI p) ∨ p = q := by
  rw [bt_gb hp, bt_gb hp, gb_or, gb_one hq hp]
  simp
theorem bt_and {x y : Int32} {p : Nat} (hp : p < 32) : bt (x &&& y) (nI p) ↔ bt x (nI p) ∧ bt y (nI p) := by
  rw [bt_gb hp, bt_gb hp, bt_gb hp, gb_and]
  simp
theorem bt_clr {x : Int32} {q p : Nat} (hq : q < 32) (hp : p < 32) : bt (x &&& (((1 : Int32) <<< (nI q &&& 31)) ^^^ (-1 : Int32))) (nI p) ↔ bt x (nI p) ∧ p ≠ q := by
  rw [bt_gb hp, bt_gb hp, gb_and, gb_xor, gb_one hq hp, gb_m1 p hp]
  by_cases e : p = q
  · simp [e]
  · simp [e]
theorem sh0 (p : Int32) : (0 : Int32) >>> (p &&& 31) = 0 := by
  refine gb_ext (fun i hi => ?_)
  unfold gb
  rw [Int32.toBitVec_shiftRight]
  show ((0 : Int32).toBitVec.sshiftRight ((p &&& 31).toBitVec.smod 32).toNat).getLsbD i = _
  rw [BitVec.getLsbD_sshiftRight]
  simp
theorem bt_no {p : Int32} : ¬ bt 0 p := by
  intro h
  refine h ?_
  rw [sh0]
  rfl
theorem gG_wL {z : St} {k : Nat} {f : Nat → Int64} : gG (wL z k f) k = f := by
  show va_up z.2.2.2 k f k = f
  unfold va_up
  rw [if_pos rfl]
