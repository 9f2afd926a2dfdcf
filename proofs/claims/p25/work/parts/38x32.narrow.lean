-- NARROWED: what the next level is left
def aN (z : St) (lv p j : Nat) : Int32 := gF z 30 (5 * lv + j) &&& gF z 29 ((24 * lv + p) * 5 + j)
/-- what a call of narrow leaves as it was -/
def NF (z z2 : St) (lv : Nat) : Prop := TX z2 ∧ Same [] [30] z z2 ∧ gG z2 28 = gG z 28 ∧ (∀ k, gJ z2 k = gJ z k) ∧ (∀ x, x < 5 * (lv + 1) → gF z2 30 x = gF z 30 x) ∧ ∀ x, x ≤ lv → gG z2 31 x = gG z 31 x
theorem v_X6_narrow (b1 b2 : Int32) (z : St) (P : Int32 → St → Prop) (lv p n : Nat) (ht : TX z) (e1 : b1 = nI lv) (e2 : b2 = nI p) (hp : p < 24) (hn : (gI z 2213).toInt = (n : Int)) (h5 : n ≤ 5) (hlv : lv < n) (hk1 : ∀ z2 : St, NF z z2 lv → (∀ j, lv < j → j < n → gF z2 30 (5 * (lv + 1) + j) = aN z lv p j ∧ ¬ aN z lv p j = 0) → gG z2 31 (lv + 1) = sL (fun j => loV z j (aN z lv p j)) (lv + 1) (n - (lv + 1)) → P 1 z2) (hk0 : ∀ z2 : St, NF z z2 lv → (∃ j, lv < j ∧ j < n ∧ aN z lv p j = 0) → P 0 z2) : wp_X6_narrow b1 b2 z P := by
  have i1 : b1.toInt = (lv : Int) := by rw [e1, nI_toInt (by omega)]
  have i2 : b2.toInt = (p : Int) := by rw [e2, nI_toInt (by omega)]
  have u1 : (1 : Int32).toInt = 1 := rfl
  have ib : (b1 + (1 : Int32)).toInt = (lv : Int) + 1 := a_add i1 u1 (by omega) (by omega)
  have cb := clampN (x := b1 + (1 : Int32)) (by omega)
  have eb : (b1 + (1 : Int32)).toNatClampNeg = lv + 1 := by omega
  have m5 : (b1 * (5 : Int32)).toInt = (lv : Int) * 5 := a_mul i1 (show (5 : Int32).toInt = 5 from rfl) (by omega) (by omega)
  have m5' : ((b1 + (1 : Int32)) * (5 : Int32)).toInt = ((lv : Int) + 1) * 5 := a_mul ib (show (5 : Int32).toInt = 5 from rfl) (by omega) (by omega)
  have m1 : (b1 * (24 : Int32)).toInt = (lv : Int) * 24 := a_mul i1 (show (24 : Int32).toInt = 24 from rfl) (by omega) (by omega)
  have m2 : ((b1 * (24 : Int32) + b2) * (5 : Int32)).toInt = ((lv : Int) * 24 + (p : Int)) * 5 := a_mul (a_add m1 i2 (by omega) (by omega)) (show (5 : Int32).toInt = 5 from rfl) (by omega) (by omega)
  unfold wp_X6_narrow
  intro K3 hK3
  have LL : ∀ (m : Nat) (v1 : Int64) (v2 : Int32) (z4 : St), TX z4 → Same [] [30] z z4 → z4.2.2 = z.2.2 → (∀ x, x < 5 * (lv + 1) → gF z4 30 x = gF z 30 x) → (lv : Int) < v2.toInt → v2.toInt ≤ (n : Int) → (∀ j, lv < j → j < v2.toNatClampNeg → gF z4 30 (5 * (lv + 1) + j) = aN z lv p j ∧ ¬ aN z lv p j = 0) → v1 = sL (fun j => loV z j (aN z lv p j)) (lv + 1) (v2.toNatClampNeg - (lv + 1)) → (5 - v2.toInt).toNat < m → K3 v1 v2 z4 := by
    intro m
    induction m with
    | zero => intro v1 v2 z4 _ _ _ _ _ _ _ _ q; omega
    | succ m ih =>
      intro v1 v2 z4 t4 s4 l4 o4 g0 g1 hrow hsum gm
      have cv := clampN (x := v2) (by omega)
      have rs4 : gI z4 2213 = gI z 2213 := s4.1 2213 (by decide)
      have nf4 : NF z z4 lv := ⟨t4, s4, G28 l4 28, fun k => by show z4.2.2.1 k = z.2.2.1 k; rw [l4], o4, fun x _ => by rw [G28 l4 31]⟩
      refine hK3 v1 v2 z4 ⟨fun c => ⟨vin ib (by omega) (by omega), ?_⟩, fun c => ?_⟩
      · rw [rs4] at c
        have c' := i_le hn rfl c
        rw [eb]
        intro z6 e6
        refine hk1 z6 ⟨by rw [e6]; exact Ty_wL t4, s4.l e6, by rw [e6, gG_ne (by decide)]; exact nf4.2.2.1, fun k => by rw [e6]; exact nf4.2.2.2.1 k, fun x hx => by rw [e6]; exact o4 x hx, fun x hx => ?_⟩ (fun j h1 h2 => ?_) ?_
        · rw [e6, gG_wL]
          show (if x = lv + 1 then v1 else gG z4 31 x) = _
          rw [if_neg (by omega)]
          exact nf4.2.2.2.2.2 x hx
        · rw [e6]
          exact hrow j h1 (by omega)
        · rw [e6, gG_wL]
          show (if lv + 1 = lv + 1 then v1 else gG z4 31 (lv + 1)) = _
          rw [if_pos rfl, hsum, show v2.toNatClampNeg = n by omega]
      · rw [rs4] at c
        have c' := i_nle hn rfl c
        have ix : (b1 * (5 : Int32) + v2).toInt = (lv : Int) * 5 + v2.toInt := a_add m5 rfl (by omega) (by omega)
        have cx := clampN (x := b1 * (5 : Int32) + v2) (by omega)
        have ex : (b1 * (5 : Int32) + v2).toNatClampNeg = 5 * lv + v2.toNatClampNeg := by omega
        have iy : ((b1 * (24 : Int32) + b2) * (5 : Int32) + v2).toInt = ((lv : Int) * 24 + (p : Int)) * 5 + v2.toInt := a_add m2 rfl (by omega) (by omega)
        have cy := clampN (x := (b1 * (24 : Int32) + b2) * (5 : Int32) + v2) (by omega)
        have ey : ((b1 * (24 : Int32) + b2) * (5 : Int32) + v2).toNatClampNeg = (24 * lv + p) * 5 + v2.toNatClampNeg := by omega
        have iw : ((b1 + (1 : Int32)) * (5 : Int32) + v2).toInt = ((lv : Int) + 1) * 5 + v2.toInt := a_add m5' rfl (by omega) (by omega)
        have cw := clampN (x := (b1 + (1 : Int32)) * (5 : Int32) + v2) (by omega)
        have ew : ((b1 + (1 : Int32)) * (5 : Int32) + v2).toNatClampNeg = 5 * (lv + 1) + v2.toNatClampNeg := by omega
        refine ⟨vin ix (by omega) (by omega), vin iy (by omega) (by omega), ?_⟩
        rw [ex, ey, ew, o4 (5 * lv + v2.toNatClampNeg) (by omega), s4.2 29 (by decide)]
        intro x7 e7
        have e7' : x7 = aN z lv p v2.toNatClampNeg := e7
        refine ⟨fun cn => ⟨vin iw (by omega) (by omega), ?_⟩, fun cz => hk0 z4 nf4 ⟨v2.toNatClampNeg, by omega, by omega, by rw [← e7']; exact cz⟩⟩
        intro z9 e9
        have t9 : TX z9 := by rw [e9]; exact Ty_wR t4 trivial
        have s9 : Same [] [30] z z9 := s4.r (by decide) e9
        have l9 : z9.2.2 = z.2.2 := by rw [e9]; exact l4
        refine v_X6_leastOf v2 x7 z9 _ v2.toNatClampNeg t9 (nI_cl (by omega)) (by omega) ?_
        intro x12 e12 x13 e13
        have i13 : x13.toInt = v2.toInt + 1 := by rw [e13]; exact a_add rfl u1 (by omega) (by omega)
        have c13 := clampN (x := x13) (by omega)
        have r30 : ∀ x, gF z9 30 x = if x = 5 * (lv + 1) + v2.toNatClampNeg then x7 else gF z4 30 x := fun x => by rw [e9, gF_upd]
        refine ih x12 x13 z9 t9 s9 l9 (fun x hx => ?_) (by omega) (by omega) (fun j h1 h2 => ?_) ?_ (by omega)
        · rw [r30, if_neg (by omega)]; exact o4 x hx
        · rw [r30]
          by_cases e : j = v2.toNatClampNeg
          · rw [e, if_pos rfl, ← e7']
            exact ⟨rfl, cn⟩
          · rw [if_neg (by omega)]
            exact hrow j h1 (by omega)
        · rw [e12, hsum, loV_same s9 (by decide) (by decide) (G28 l9 28), e7', show x13.toNatClampNeg - (lv + 1) = (v2.toNatClampNeg - (lv + 1)) + 1 by omega]
          show _ = sL (fun j => loV z j (aN z lv p j)) (lv + 1) (v2.toNatClampNeg - (lv + 1)) + loV z (lv + 1 + (v2.toNatClampNeg - (lv + 1))) (aN z lv p (lv + 1 + (v2.toNatClampNeg - (lv + 1))))
          rw [show lv + 1 + (v2.toNatClampNeg - (lv + 1)) = v2.toNatClampNeg by omega]
  intro x14 e14
  have i14 : x14.toInt = (lv : Int) + 1 := by rw [e14]; exact ib
  have c14 := clampN (x := x14) (by omega)
  refine LL 6 0 x14 z ht Same.rf rfl (fun _ _ => rfl) (by omega) (by omega) (fun j h1 h2 => by omega) ?_ (by omega)
  rw [show x14.toNatClampNeg - (lv + 1) = 0 by omega]
  rfl
