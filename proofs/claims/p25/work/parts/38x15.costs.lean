-- COSTS of both sides
def csX (nd p : Nat → Int32) (h : Nat) : Nat → Int64
  | 0 => 0
  | k + 1 => csX nd p h k + (if h + k < 168 then Int32.toInt64 (nd k * p (h + k)) else 0)
def csM (nd p : Nat → Int32) (h : Nat) : Nat → Int64
  | 0 => 0
  | k + 1 => csM nd p h k + (if h + k < 168 then Int32.toInt64 (nd k) * Int32.toInt64 (p (h + k)) else 0)
theorem csX_stop {nd p : Nat → Int32} {h m : Nat} (hm : 168 ≤ h + m) : ∀ d, csX nd p h (m + d) = csX nd p h m := by
  intro d
  induction d with
  | zero => rfl
  | succ d ih =>
    show csX nd p h (m + d) + (if h + (m + d) < 168 then _ else 0) = _
    rw [if_neg (by omega), ih, Int64.add_zero]
theorem csM_stop {nd p : Nat → Int32} {h m : Nat} (hm : 168 ≤ h + m) : ∀ d, csM nd p h (m + d) = csM nd p h m := by
  intro d
  induction d with
  | zero => rfl
  | succ d ih =>
    show csM nd p h (m + d) + (if h + (m + d) < 168 then _ else 0) = _
    rw [if_neg (by omega), ih, Int64.add_zero]
theorem v_X1_costFrom_5 (b1 b2 : Int32) (z : St) (P : Int64 → Prop) (ht : TX z) (h0 : 0 ≤ b1.toInt ∧ b1.toInt ≤ 15) (h1 : 0 ≤ b2.toInt ∧ b2.toInt ≤ 200) (hk : P (csX (fun k => gF z 18 (4 * b1.toNatClampNeg + k)) (gF z 5) b2.toNatClampNeg (gF z 17 b1.toNatClampNeg).toNatClampNeg)) : wp_X1_costFrom_5 b1 b2 z P := by
  have hv : vp_in b1 16 := vin rfl h0.1 (by omega)
  have c1 := clampN h0.1
  have c2 := clampN h1.1
  have f17 : 0 ≤ (gF z 17 b1.toNatClampNeg).toInt ∧ (gF z 17 b1.toNatClampNeg).toInt ≤ 4 := ht.2 17 _
  have c17 := clampN f17.1
  have m4 : (b1 * (4 : Int32)).toInt = b1.toInt * 4 := a_mul rfl (show (4 : Int32).toInt = 4 from rfl) (by omega) (by omega)
  unfold wp_X1_costFrom_5
  intro K3 hK3
  have LL : ∀ (n : Nat) (v1 : Int64) (v2 : Int32), 0 ≤ v2.toInt → v2.toInt ≤ (gF z 17 b1.toNatClampNeg).toInt → v1 = csX (fun k => gF z 18 (4 * b1.toNatClampNeg + k)) (gF z 5) b2.toNatClampNeg v2.toNatClampNeg → (4 - v2.toInt).toNat < n → K3 v1 v2 := by
    intro n
    induction n with
    | zero => intro v1 v2 _ _ _ q; omega
    | succ n ih =>
      intro v1 v2 g0 g1 hs gm
      have cv := clampN g0
      refine hK3 v1 v2 ⟨hv, fun c => ?_, fun c => ⟨fun c3 => ?_, fun c3 => ?_⟩⟩
      · have c' := i_le rfl rfl c
        rw [hs, show v2.toNatClampNeg = (gF z 17 b1.toNatClampNeg).toNatClampNeg by omega]; exact hk
      · have ia : (b2 + v2).toInt = b2.toInt + v2.toInt := a_add rfl rfl (by omega) (by omega)
        have c3' := i_le (p := 168) rfl ia c3
        rw [hs, ← csX_stop (m := v2.toNatClampNeg) (by omega) ((gF z 17 b1.toNatClampNeg).toNatClampNeg - v2.toNatClampNeg), show v2.toNatClampNeg + ((gF z 17 b1.toNatClampNeg).toNatClampNeg - v2.toNatClampNeg) = (gF z 17 b1.toNatClampNeg).toNatClampNeg by omega]
        exact hk
      · have ia : (b2 + v2).toInt = b2.toInt + v2.toInt := a_add rfl rfl (by omega) (by omega)
        have c3' := i_nle (p := 168) rfl ia c3
        have c' := i_nle rfl rfl c
        have ca := clampN (x := b2 + v2) (by omega)
        have i4 : (b1 * (4 : Int32) + v2).toInt = b1.toInt * 4 + v2.toInt := a_add m4 rfl (by omega) (by omega)
        have c4 := clampN (x := b1 * (4 : Int32) + v2) (by omega)
        refine ⟨vin i4 (by omega) (by omega), vin ia (by omega) (by omega), ?_⟩
        intro x6 e6 x7 e7
        have i7 : x7.toInt = v2.toInt + 1 := by rw [e7]; exact a_add rfl rfl (by omega) (by omega)
        have c7 := clampN (x := x7) (by omega)
        refine ih x6 x7 (by omega) (by omega) ?_ (by omega)
        rw [e6, hs, show x7.toNatClampNeg = v2.toNatClampNeg + 1 by omega, show (b1 * (4 : Int32) + v2).toNatClampNeg = 4 * b1.toNatClampNeg + v2.toNatClampNeg by omega, show (b2 + v2).toNatClampNeg = b2.toNatClampNeg + v2.toNatClampNeg by omega]
        show _ = csX _ _ _ _ + (if b2.toNatClampNeg + v2.toNatClampNeg < 168 then _ else 0)
        rw [if_pos (by omega)]
  exact LL _ 0 0 (by decide) f17.1 rfl (Nat.lt_succ_self _)
theorem v_X9_costAt (b1 b2 b3 : Int32) (z : St) (P : Int64 → Prop) (ht : TM z) (h0 : 0 ≤ b1.toInt ∧ b1.toInt ≤ 15) (h1 : 0 ≤ b2.toInt ∧ b2.toInt ≤ 200) (hk : P (csM (fun k => gF z 10 (4 * b1.toNatClampNeg + k)) (fun t => PR z (nI t) b3) b2.toNatClampNeg (gF z 9 b1.toNatClampNeg).toNatClampNeg)) : wp_X9_costAt b1 b2 b3 z P := by
  have hv : vp_in b1 16 := vin rfl h0.1 (by omega)
  have c1 := clampN h0.1
  have c2 := clampN h1.1
  have f17 : 0 ≤ (gF z 9 b1.toNatClampNeg).toInt ∧ (gF z 9 b1.toNatClampNeg).toInt ≤ 4 := ht.2 9 _
  have c17 := clampN f17.1
  have m4 : ((4 : Int32) * b1).toInt = 4 * b1.toInt := a_mul (show (4 : Int32).toInt = 4 from rfl) rfl (by omega) (by omega)
  unfold wp_X9_costAt
  intro K3 hK3
  have LL : ∀ (n : Nat) (v1 : Int64) (v2 : Int32), 0 ≤ v2.toInt → v2.toInt ≤ (gF z 9 b1.toNatClampNeg).toInt → v1 = csM (fun k => gF z 10 (4 * b1.toNatClampNeg + k)) (fun t => PR z (nI t) b3) b2.toNatClampNeg v2.toNatClampNeg → (4 - v2.toInt).toNat < n → K3 v1 v2 := by
    intro n
    induction n with
    | zero => intro v1 v2 _ _ _ q; omega
    | succ n ih =>
      intro v1 v2 g0 g1 hs gm
      have cv := clampN g0
      refine hK3 v1 v2 ⟨hv, fun c => ?_, fun c => ⟨fun c3 => ?_, fun c3 => ?_⟩⟩
      · have c' := i_le rfl rfl c
        rw [hs, show v2.toNatClampNeg = (gF z 9 b1.toNatClampNeg).toNatClampNeg by omega]; exact hk
      · have ia : (b2 + v2).toInt = b2.toInt + v2.toInt := a_add rfl rfl (by omega) (by omega)
        have c3' := i_le (p := 168) rfl ia c3
        rw [hs, ← csM_stop (m := v2.toNatClampNeg) (by omega) ((gF z 9 b1.toNatClampNeg).toNatClampNeg - v2.toNatClampNeg), show v2.toNatClampNeg + ((gF z 9 b1.toNatClampNeg).toNatClampNeg - v2.toNatClampNeg) = (gF z 9 b1.toNatClampNeg).toNatClampNeg by omega]
        exact hk
      · have ia : (b2 + v2).toInt = b2.toInt + v2.toInt := a_add rfl rfl (by omega) (by omega)
        have c3' := i_nle (p := 168) rfl ia c3
        have c' := i_nle rfl rfl c
        have ca := clampN (x := b2 + v2) (by omega)
        have i4 : ((4 : Int32) * b1 + v2).toInt = 4 * b1.toInt + v2.toInt := a_add m4 rfl (by omega) (by omega)
        have c4 := clampN (x := (4 : Int32) * b1 + v2) (by omega)
        refine ⟨vin i4 (by omega) (by omega), ?_⟩
        refine v_X9_priceOf _ _ _ _ ht ?_
        intro x8 e8 x9 e9
        have i9 : x9.toInt = v2.toInt + 1 := by rw [e9]; exact a_add rfl rfl (by omega) (by omega)
        have c9 := clampN (x := x9) (by omega)
        refine ih x8 x9 (by omega) (by omega) ?_ (by omega)
        have eb : b2 + v2 = nI (b2.toNatClampNeg + v2.toNatClampNeg) := by rw [show b2.toNatClampNeg + v2.toNatClampNeg = (b2 + v2).toNatClampNeg by omega]; exact nI_cl (by omega)
        rw [e8, hs, show x9.toNatClampNeg = v2.toNatClampNeg + 1 by omega, show ((4 : Int32) * b1 + v2).toNatClampNeg = 4 * b1.toNatClampNeg + v2.toNatClampNeg by omega, eb]
        show _ = csM _ _ _ _ + (if b2.toNatClampNeg + v2.toNatClampNeg < 168 then _ else 0)
        rw [if_pos (by omega)]
  exact LL _ 0 0 (by decide) f17.1 rfl (Nat.lt_succ_self _)
theorem l_mulI {x y : Int32} {p q : Int} (hx : x.toInt = p) (hy : y.toInt = q) (h1 : -2147483648 ≤ p * q) (h2 : p * q < 2147483648) : Int32.toInt64 (x * y) = Int32.toInt64 x * Int32.toInt64 y := by
  refine Int64.toInt_inj.mp ?_
  rw [show (Int32.toInt64 (x * y)).toInt = (x * y).toInt from a_wide rfl, a_mul hx hy h1 h2]
  exact (lmul (a_wide hx) (a_wide hy) (by omega) (by omega)).symm
theorem mul_bd {p q : Int} (h1 : 0 ≤ p ∧ p ≤ 5000) (h2 : -1000 ≤ q ∧ q ≤ 10000) : -50000000 ≤ p * q ∧ p * q ≤ 50000000 := by
  have a : p * q ≤ p * 10000 := Int.mul_le_mul_of_nonneg_left h2.2 h1.1
  have b : p * (-1000) ≤ p * q := Int.mul_le_mul_of_nonneg_left h2.1 h1.1
  omega
/-- needs and prices within their bounds: both sums are the same, and small -/
theorem cs_eq {nd p : Nat → Int32} {h : Nat} : ∀ n : Nat, (∀ k, k < n → 0 ≤ (nd k).toInt ∧ (nd k).toInt ≤ 5000) → (∀ t, t < 168 → -1000 ≤ (p t).toInt ∧ (p t).toInt ≤ 10000) → n ≤ 4 → csX nd p h n = csM nd p h n ∧ -50000000 * (n : Int) ≤ (csM nd p h n).toInt ∧ (csM nd p h n).toInt ≤ 50000000 * (n : Int) := by
  intro n
  induction n with
  | zero => intro _ _ _; exact ⟨rfl, show -50000000 * ((0 : Nat) : Int) ≤ (0 : Int64).toInt by decide, show (0 : Int64).toInt ≤ 50000000 * ((0 : Nat) : Int) by decide⟩
  | succ n ih =>
    intro hn hp h4
    obtain ⟨e, l, u⟩ := ih (fun k hk => hn k (by omega)) hp (by omega)
    show csX nd p h n + (if h + n < 168 then Int32.toInt64 (nd n * p (h + n)) else 0) = csM nd p h n + (if h + n < 168 then Int32.toInt64 (nd n) * Int32.toInt64 (p (h + n)) else 0) ∧ _ ≤ (csM nd p h n + (if h + n < 168 then Int32.toInt64 (nd n) * Int32.toInt64 (p (h + n)) else 0)).toInt ∧ (csM nd p h n + (if h + n < 168 then Int32.toInt64 (nd n) * Int32.toInt64 (p (h + n)) else 0)).toInt ≤ _
    by_cases c : h + n < 168
    · rw [if_pos c, if_pos c]
      have b := mul_bd (hn n (by omega)) (hp (h + n) c)
      rw [e, l_mulI rfl rfl (by omega) (by omega)]
      have im : (Int32.toInt64 (nd n) * Int32.toInt64 (p (h + n))).toInt = (nd n).toInt * (p (h + n)).toInt := lmul (a_wide rfl) (a_wide rfl) (by omega) (by omega)
      have ia : (csM nd p h n + Int32.toInt64 (nd n) * Int32.toInt64 (p (h + n))).toInt = (csM nd p h n).toInt + (nd n).toInt * (p (h + n)).toInt := a_addL rfl im (by omega) (by omega)
      rw [ia]
      refine ⟨rfl, by omega, by omega⟩
    · rw [if_neg c, if_neg c, e, Int64.add_zero]
      refine ⟨rfl, by omega, by omega⟩
theorem prF_bd {r1 r2 r3 : Nat → Int32} {pl b1 b2 : Int32} (hp : -1000 ≤ pl.toInt ∧ pl.toInt ≤ 10000) (h2 : ∀ i, -1000 ≤ (r2 i).toInt ∧ (r2 i).toInt ≤ 10000) : ∀ n, -1000 ≤ (prF r1 r2 r3 pl b1 b2 n).toInt ∧ (prF r1 r2 r3 pl b1 b2 n).toInt ≤ 10000 := by
  intro n
  induction n with
  | zero => exact hp
  | succ n ih =>
    unfold prF
    by_cases a : r1 n = b1
    · rw [if_pos a]
      by_cases b : b2 < r3 n
      · rw [if_pos b]; exact ih
      · rw [if_neg b]; exact h2 n
    · rw [if_neg a]; exact ih
