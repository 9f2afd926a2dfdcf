def JT (z z1 : St) : Prop := gJ z1 2214 = gJ z 2214
theorem JT_rf {z : St} : JT z z := rfl
theorem JT_tr {z z1 z2 : St} (h : JT z z1) (h2 : JT z1 z2) : JT z z2 := h2.trans h
set_option maxHeartbeats 2000000 in
theorem s2_X0_draw (b1 : Int32) (b2 : Int32) (b3 : Int32) (z : St) (P : St → Prop) (ht : TX z) (h0 : 0 ≤ b1.toInt ∧ b1.toInt ≤ 3) (h1 : 0 ≤ b2.toInt ∧ b2.toInt ≤ 167) (hk : ∀ (z2 : St), TX z2 → Same [] [10, 12] z z2 → JT z z2 → (True) → P z2) : wp_X0_draw b1 b2 b3 z P := by
  unfold wp_X0_draw
  refine ⟨vin (a_add (a_mul rfl (show (168 : Int32).toInt = 168 by decide) (by omega) (by omega)) rfl (by omega) (by omega)) (by omega) (by omega), ?_⟩
  refine ⟨vin (a_add (a_mul rfl (show (168 : Int32).toInt = 168 by decide) (by omega) (by omega)) rfl (by omega) (by omega)) (by omega) (by omega), ?_⟩
  intro z1 ez1
  have tz1 : TX z1 := by rw [ez1]; exact Ty_wR ht trivial
  have oz1 : Same [] [10, 12] z z1 := (Same.rf (z := z)).r (by decide) ez1
  have xz1 : JT z z1 := by rw [ez1]; exact JT_rf
  refine ⟨vin rfl (by omega) (by omega), ?_⟩
  refine ⟨vin rfl (by omega) (by omega), ?_⟩
  intro z2 ez2
  have tz2 : TX z2 := by rw [ez2]; exact Ty_wR tz1 trivial
  have oz2 : Same [] [10, 12] z z2 := oz1.r (by decide) ez2
  have xz2 : JT z z2 := by rw [ez2]; exact xz1
  exact hk z2 tz2 oz2 xz2 trivial

set_option maxHeartbeats 2000000 in
theorem s2_X1_draw (b1 : Int32) (b2 : Int32) (b3 : Int32) (z : St) (P : St → Prop) (ht : TX z) (h0 : 0 ≤ b1.toInt ∧ b1.toInt ≤ 15) (h1 : 0 ≤ b2.toInt ∧ b2.toInt ≤ 167) (h2 : b2.toInt + (gF z 17 b1.toNatClampNeg).toInt ≤ 168) (hk : ∀ (z2 : St), TX z2 → Same [] [10, 12] z z2 → JT z z2 → (True) → P z2) : wp_X1_draw b1 b2 b3 z P := by
  unfold wp_X1_draw
  intro K2 hK_1
  have L_2 : ∀ (n : Nat) (v1 : Int32) (z3 : St), TX z3 → Same [] [10, 12] z z3 → JT z z3 → (0 ≤ v1.toInt) → (v1.toInt ≤ 4) → (4 - v1.toInt).toNat < n → K2 v1 z3 := by
    intro n
    induction n with
    | zero => intro v1 z3 tz3 ocz3 xz3 w_3 w_4 m_6; omega
    | succ n ih_5 =>
      intro v1 z3 tz3 ocz3 xz3 w_3 w_4 m_6
      refine hK_1 v1 z3 ?_
      refine ⟨vin rfl (by omega) (by omega), ?_⟩
      refine ⟨fun c4 => ?_, fun c4 => ?_⟩
      · skip
        have f_7 : 0 ≤ (gF z3 17 b1.toNatClampNeg).toInt ∧ (gF z3 17 b1.toNatClampNeg).toInt ≤ 4 := tz3.2 17 _
        have q_8 := (ocz3.ff 17 b1.toNatClampNeg (by decide))
        have f_9 : 0 ≤ (gF z 17 b1.toNatClampNeg).toInt ∧ (gF z 17 b1.toNatClampNeg).toInt ≤ 4 := ht.2 17 _
        have i_10 := i_le rfl rfl c4
        exact hk z3 tz3 ocz3 xz3 trivial
      · skip
        have f_11 : 0 ≤ (gF z3 17 b1.toNatClampNeg).toInt ∧ (gF z3 17 b1.toNatClampNeg).toInt ≤ 4 := tz3.2 17 _
        have q_12 := (ocz3.ff 17 b1.toNatClampNeg (by decide))
        have f_13 : 0 ≤ (gF z 17 b1.toNatClampNeg).toInt ∧ (gF z 17 b1.toNatClampNeg).toInt ≤ 4 := ht.2 17 _
        have i_14 := i_nle rfl rfl c4
        refine ⟨vin rfl (by omega) (by omega), ?_⟩
        refine ⟨vin (a_add (a_mul rfl (show (4 : Int32).toInt = 4 by decide) (by omega) (by omega)) rfl (by omega) (by omega)) (by omega) (by omega), ?_⟩
        have f_15 : 0 ≤ (gF z3 14 b1.toNatClampNeg).toInt ∧ (gF z3 14 b1.toNatClampNeg).toInt ≤ 3 := tz3.2 14 _
        have q_16 := (ocz3.ff 14 b1.toNatClampNeg (by decide))
        have f_17 : 0 ≤ (gF z 14 b1.toNatClampNeg).toInt ∧ (gF z 14 b1.toNatClampNeg).toInt ≤ 3 := ht.2 14 _
        have g_18 : (b2 + v1).toInt = (b2.toInt + v1.toInt) := (a_add rfl rfl (by omega) (by omega))
        have q_19 := (ocz3.ff 18 ((b1 * (4 : Int32)) + v1).toNatClampNeg (by decide))
        refine s2_X0_draw (gF z3 14 b1.toNatClampNeg) (b2 + v1) (b3 * (gF z3 18 ((b1 * ((4 : Int32))) + v1).toNatClampNeg)) z3 _ tz3 (by omega) (by omega) (fun z5 tz5 o_21 xz5 hp_20 => ?_)
        have oz5 : Same [] [10, 12] z z5 := ocz3.tr o_21 (by decide) (by decide)
        intro x7 ex7
        have ix7 : x7.toInt = (v1.toInt + (1)) := by rw [ex7]; exact (a_add rfl (show (1 : Int32).toInt = 1 by decide) (by omega) (by omega))
        exact ih_5 x7 z5 tz5 oz5 (JT_tr xz3 xz5) (by omega) (by omega) (by omega)
  have g_22 : (0 : Int32).toInt = 0 := by decide
  exact L_2 ((4 - (0 : Int32).toInt).toNat + 1) ((0 : Int32)) z ht (Same.rf (z := z)) JT_rf (by omega) (by omega) (by omega)

set_option maxHeartbeats 2000000 in
theorem s2_X6_narrow (b1 : Int32) (b2 : Int32) (z : St) (P : Int32 → St → Prop) (ht : TX z) (h0 : 0 ≤ b1.toInt ∧ b1.toInt ≤ 4) (h1 : 0 ≤ b2.toInt ∧ b2.toInt ≤ 23) (hk : ∀ (r : Int32) (z2 : St), TX z2 → Same [] [30] z z2 → JT z z2 → ((r = 1 ∧ (True)) ∨ (r = 0 ∧ (True))) → P r z2) : wp_X6_narrow b1 b2 z P := by
  unfold wp_X6_narrow
  intro K3 hK_1
  have L_2 : ∀ (n : Nat) (v1 : Int64) (v2 : Int32) (z4 : St), TX z4 → Same [] [30] z z4 → JT z z4 → (0 ≤ v2.toInt) → (v2.toInt ≤ 5) → (5 - v2.toInt).toNat < n → K3 v1 v2 z4 := by
    intro n
    induction n with
    | zero => intro v1 v2 z4 tz4 ocz4 xz4 w_3 w_4 m_6; omega
    | succ n ih_5 =>
      intro v1 v2 z4 tz4 ocz4 xz4 w_3 w_4 m_6
      refine hK_1 v1 v2 z4 ?_
      refine ⟨fun c5 => ?_, fun c5 => ?_⟩
      · skip
        have f_7 : 0 ≤ (gI z4 2213).toInt ∧ (gI z4 2213).toInt ≤ 5 := tz4.1 2213
        have q_8 := (ocz4.fi 2213 (by decide))
        have f_9 : 0 ≤ (gI z 2213).toInt ∧ (gI z 2213).toInt ≤ 5 := ht.1 2213
        have i_10 := i_le rfl rfl c5
        refine ⟨vin (a_add rfl (show (1 : Int32).toInt = 1 by decide) (by omega) (by omega)) (by omega) (by omega), ?_⟩
        intro z6 ez6
        have tz6 : TX z6 := by rw [ez6]; exact Ty_wL tz4
        have oz6 : Same [] [30] z z6 := ocz4.l ez6
        have xz6 : JT z z6 := by rw [ez6]; exact xz4
        have g_11 : (1 : Int32).toInt = 1 := by decide
        exact hk ((1 : Int32)) z6 tz6 oz6 xz6 (Or.inl ⟨rfl, trivial⟩)
      · skip
        have f_12 : 0 ≤ (gI z4 2213).toInt ∧ (gI z4 2213).toInt ≤ 5 := tz4.1 2213
        have q_13 := (ocz4.fi 2213 (by decide))
        have f_14 : 0 ≤ (gI z 2213).toInt ∧ (gI z 2213).toInt ≤ 5 := ht.1 2213
        have i_15 := i_nle rfl rfl c5
        refine ⟨vin (a_add (a_mul rfl (show (5 : Int32).toInt = 5 by decide) (by omega) (by omega)) rfl (by omega) (by omega)) (by omega) (by omega), ?_⟩
        refine ⟨vin (a_add (a_mul (a_add (a_mul rfl (show (24 : Int32).toInt = 24 by decide) (by omega) (by omega)) rfl (by omega) (by omega)) (show (5 : Int32).toInt = 5 by decide) (by omega) (by omega)) rfl (by omega) (by omega)) (by omega) (by omega), ?_⟩
        intro x7 ex7
        have q_16 := (ocz4.ff 29 ((((b1 * (24 : Int32)) + b2) * (5 : Int32)) + v2).toNatClampNeg (by decide))
        have ix7 : x7.toInt = ((gF z4 30 ((b1 * (5 : Int32)) + v2).toNatClampNeg) &&& (gF z4 29 ((((b1 * (24 : Int32)) + b2) * (5 : Int32)) + v2).toNatClampNeg)).toInt := by rw [ex7]
        refine ⟨fun c8 => ?_, fun c8 => ?_⟩
        · skip
          have i_17 := i_ne rfl (show (0 : Int32).toInt = 0 by decide) c8
          refine ⟨vin (a_add (a_mul (a_add rfl (show (1 : Int32).toInt = 1 by decide) (by omega) (by omega)) (show (5 : Int32).toInt = 5 by decide) (by omega) (by omega)) rfl (by omega) (by omega)) (by omega) (by omega), ?_⟩
          intro z9 ez9
          have tz9 : TX z9 := by rw [ez9]; exact Ty_wR tz4 trivial
          have oz9 : Same [] [30] z z9 := ocz4.r (by decide) ez9
          have xz9 : JT z z9 := by rw [ez9]; exact xz4
          refine s_X6_leastOf v2 x7 z9 _ tz9 (by omega) (fun r11 hp_18 => ?_)
          intro x12 ex12
          intro x13 ex13
          have ix13 : x13.toInt = (v2.toInt + (1)) := by rw [ex13]; exact (a_add rfl (show (1 : Int32).toInt = 1 by decide) (by omega) (by omega))
          exact ih_5 x12 x13 z9 tz9 oz9 xz9 (by omega) (by omega) (by omega)
        · skip
          have i_19 := i_eq rfl (show (0 : Int32).toInt = 0 by decide) c8
          have g_20 : (0 : Int32).toInt = 0 := by decide
          exact hk ((0 : Int32)) z4 tz4 ocz4 xz4 (Or.inr ⟨rfl, trivial⟩)
  intro x14 ex14
  have ix14 : x14.toInt = (b1.toInt + (1)) := by rw [ex14]; exact (a_add rfl (show (1 : Int32).toInt = 1 by decide) (by omega) (by omega))
  exact L_2 ((5 - x14.toInt).toNat + 1) ((0 : Int64)) x14 z ht (Same.rf (z := z)) JT_rf (by omega) (by omega) (by omega)

