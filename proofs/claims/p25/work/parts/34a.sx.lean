set_option maxHeartbeats 2000000 in
theorem s_X6_thinOut  (z : St) (P : Int32 → St → Prop) (ht : TX z)  (hk : ∀ (r : Int32) (z2 : St), TX z2 → Same [] [30] z z2 → ((r = 1 ∧ (True)) ∨ (r = 0 ∧ (True))) → P r z2) : wp_X6_thinOut  z P := by
  unfold wp_X6_thinOut
  intro K3 hK_1
  have L_2 : ∀ (n : Nat) (v1 : Int32) (v2 : Int32) (z4 : St), TX z4 → Same [] [30] z z4 → (0 ≤ v2.toInt) → (v2.toInt ≤ 5) → (v1 = 0 ∨ v1 = 1) → (5 - v2.toInt).toNat < n → K3 v1 v2 z4 := by
    intro n
    induction n with
    | zero => intro v1 v2 z4 tz4 ocz4 w_3 w_4 w_5 m_7; omega
    | succ n ih_6 =>
      intro v1 v2 z4 tz4 ocz4 w_3 w_4 w_5 m_7
      refine hK_1 v1 v2 z4 ?_
      refine ⟨fun c5 => ?_, fun c5 => ?_⟩
      · skip
        have f_8 : 0 ≤ (gI z4 2213).toInt ∧ (gI z4 2213).toInt ≤ 5 := tz4.1 2213
        have q_9 := (ocz4.fi 2213 (by decide))
        have f_10 : 0 ≤ (gI z 2213).toInt ∧ (gI z 2213).toInt ≤ 5 := ht.1 2213
        have i_11 := i_le rfl rfl c5
        have hb9 : v1 = 0 ∨ v1 = 1 := by first | assumption | omega
        refine ⟨hb9, ?_⟩
        rcases hb9 with e9 | e9
        · exact hk v1 z4 tz4 ocz4 (Or.inr ⟨e9, trivial⟩)
        · exact hk v1 z4 tz4 ocz4 (Or.inl ⟨e9, trivial⟩)
      · skip
        have f_12 : 0 ≤ (gI z4 2213).toInt ∧ (gI z4 2213).toInt ≤ 5 := tz4.1 2213
        have q_13 := (ocz4.fi 2213 (by decide))
        have f_14 : 0 ≤ (gI z 2213).toInt ∧ (gI z 2213).toInt ≤ 5 := ht.1 2213
        have i_15 := i_nle rfl rfl c5
        intro K8 hK_16
        have L_17 : ∀ (n : Nat) (v6 : Int32) (v7 : Int32) (z9 : St), TX z9 → Same [] [30] z z9 → (0 ≤ v7.toInt) → (v7.toInt ≤ 24) → (v6 = 0 ∨ v6 = 1) → (24 - v7.toInt).toNat < n → K8 v6 v7 z9 := by
          intro n
          induction n with
          | zero => intro v6 v7 z9 tz9 ocz9 w_18 w_19 w_20 m_22; omega
          | succ n ih_21 =>
            intro v6 v7 z9 tz9 ocz9 w_18 w_19 w_20 m_22
            refine hK_16 v6 v7 z9 ?_
            refine ⟨vin rfl (by omega) (by omega), ?_⟩
            refine ⟨fun c10 => ?_, fun c10 => ?_⟩
            · skip
              have f_23 : 0 ≤ (gF z9 25 v2.toNatClampNeg).toInt ∧ (gF z9 25 v2.toNatClampNeg).toInt ≤ 24 := tz9.2 25 _
              have q_24 := (ocz9.ff 25 v2.toNatClampNeg (by decide))
              have f_25 : 0 ≤ (gF z 25 v2.toNatClampNeg).toInt ∧ (gF z 25 v2.toNatClampNeg).toInt ≤ 24 := ht.2 25 _
              have i_26 := i_le rfl rfl c10
              intro x11 ex11
              have ix11 : x11.toInt = (v2.toInt + (1)) := by rw [ex11]; exact (a_add rfl (show (1 : Int32).toInt = 1 by decide) (by omega) (by omega))
              exact ih_6 v6 x11 z9 tz9 ocz9 (by omega) (by omega) (by first | omega | assumption | decide) (by omega)
            · skip
              have f_27 : 0 ≤ (gF z9 25 v2.toNatClampNeg).toInt ∧ (gF z9 25 v2.toNatClampNeg).toInt ≤ 24 := tz9.2 25 _
              have q_28 := (ocz9.ff 25 v2.toNatClampNeg (by decide))
              have f_29 : 0 ≤ (gF z 25 v2.toNatClampNeg).toInt ∧ (gF z 25 v2.toNatClampNeg).toInt ≤ 24 := ht.2 25 _
              have i_30 := i_nle rfl rfl c10
              refine ⟨vin (a_add (a_mul rfl (show (24 : Int32).toInt = 24 by decide) (by omega) (by omega)) rfl (by omega) (by omega)) (by omega) (by omega), ?_⟩
              intro x12 ex12
              have f_31 : 0 ≤ (gF z9 26 ((v2 * (24 : Int32)) + v7).toNatClampNeg).toInt ∧ (gF z9 26 ((v2 * (24 : Int32)) + v7).toNatClampNeg).toInt ≤ 23 := tz9.2 26 _
              have q_32 := (ocz9.ff 26 ((v2 * (24 : Int32)) + v7).toNatClampNeg (by decide))
              have f_33 : 0 ≤ (gF z 26 ((v2 * (24 : Int32)) + v7).toNatClampNeg).toInt ∧ (gF z 26 ((v2 * (24 : Int32)) + v7).toNatClampNeg).toInt ≤ 23 := ht.2 26 _
              have ix12 : x12.toInt = (gF z9 26 ((v2 * (24 : Int32)) + v7).toNatClampNeg).toInt := by rw [ex12]
              refine ⟨vin rfl (by omega) (by omega), ?_⟩
              intro K14 hK_34
              refine ⟨fun c17 => ?_, fun c17 => ?_⟩
              · skip
                have i_35 := i_eq rfl (show (0 : Int32).toInt = 0 by decide) c17
                refine hK_34 v6 z9 ?_
                intro y_36 ey_36
                have iy_36 : y_36.toInt = (v7.toInt + (1)) := by rw [ey_36]; exact (a_add rfl (show (1 : Int32).toInt = 1 by decide) (by omega) (by omega))
                exact ih_21 v6 y_36 z9 tz9 ocz9 (by omega) (by omega) (by first | omega | assumption | decide) (by omega)
              · skip
                have i_37 := i_ne rfl (show (0 : Int32).toInt = 0 by decide) c17
                refine s_X6_hasPartners v2 x12 z9 _ tz9 (by omega) (by omega) (fun r19 hp_38 => ?_)
                rcases hp_38 with ⟨er19, hp_38⟩ | ⟨er19, hp_38⟩
                · subst er19
                  refine ⟨fun _ => ?_, fun hc => absurd hc (by decide)⟩
                  refine hK_34 v6 z9 ?_
                  intro y_39 ey_39
                  have iy_39 : y_39.toInt = (v7.toInt + (1)) := by rw [ey_39]; exact (a_add rfl (show (1 : Int32).toInt = 1 by decide) (by omega) (by omega))
                  exact ih_21 v6 y_39 z9 tz9 ocz9 (by omega) (by omega) (by first | omega | assumption | decide) (by omega)
                · subst er19
                  refine ⟨fun hc => absurd hc (by decide), fun _ => ?_⟩
                  refine ⟨vin rfl (by omega) (by omega), ?_⟩
                  refine ⟨vin rfl (by omega) (by omega), ?_⟩
                  intro z21 ez21
                  have tz21 : TX z21 := by rw [ez21]; exact Ty_wR tz9 trivial
                  have oz21 : Same [] [30] z z21 := ocz9.r (by decide) ez21
                  refine hK_34 ((1 : Int32)) z21 ?_
                  intro y_40 ey_40
                  have iy_40 : y_40.toInt = (v7.toInt + (1)) := by rw [ey_40]; exact (a_add rfl (show (1 : Int32).toInt = 1 by decide) (by omega) (by omega))
                  have g_41 : (1 : Int32).toInt = 1 := by decide
                  exact ih_21 ((1 : Int32)) y_40 z21 tz21 oz21 (by omega) (by omega) (by first | omega | assumption | decide) (by omega)
        have g_42 : (0 : Int32).toInt = 0 := by decide
        exact L_17 ((24 - (0 : Int32).toInt).toNat + 1) v1 ((0 : Int32)) z4 tz4 ocz4 (by omega) (by omega) (by first | omega | assumption | decide) (by omega)
  have g_43 : (0 : Int32).toInt = 0 := by decide
  have g_44 : (0 : Int32).toInt = 0 := by decide
  exact L_2 ((5 - (0 : Int32).toInt).toNat + 1) ((0 : Int32)) ((0 : Int32)) z ht (Same.rf (z := z)) (by omega) (by omega) (by first | omega | assumption | decide) (by omega)

set_option maxHeartbeats 2000000 in
theorem s_X6_areBorne (b1 : Int32) (b2 : Int32) (b3 : Int32) (b4 : Int32) (z : St) (P : Int32 → Prop) (ht : TX z) (h0 : 0 ≤ b1.toInt ∧ b1.toInt ≤ 15) (h1 : 0 ≤ b2.toInt ∧ b2.toInt ≤ 168) (h2 : 0 ≤ b3.toInt ∧ b3.toInt ≤ 15) (h3 : 0 ≤ b4.toInt ∧ b4.toInt ≤ 168) (h4 : b2.toInt + (gF z 17 b1.toNatClampNeg).toInt ≤ 168) (h5 : b4.toInt + (gF z 17 b3.toNatClampNeg).toInt ≤ 168) (hk : ∀ r : Int32, (r = 1 ∧ (True)) ∨ (r = 0 ∧ (True)) → P r) : wp_X6_areBorne b1 b2 b3 b4 z P := by
  unfold wp_X6_areBorne
  intro x1 ex1
  have ix1 := a_max rfl rfl ex1
  refine ⟨vin rfl (by omega) (by omega), ?_⟩
  refine ⟨vin rfl (by omega) (by omega), ?_⟩
  intro x2 ex2
  have f_1 : 0 ≤ (gF z 17 b3.toNatClampNeg).toInt ∧ (gF z 17 b3.toNatClampNeg).toInt ≤ 4 := ht.2 17 _
  have f_2 : 0 ≤ (gF z 17 b1.toNatClampNeg).toInt ∧ (gF z 17 b1.toNatClampNeg).toInt ≤ 4 := ht.2 17 _
  have ix2 := a_min (a_add rfl rfl (by omega) (by omega)) (a_add rfl rfl (by omega) (by omega)) ex2
  refine ⟨vin rfl (by omega) (by omega), ?_⟩
  intro x3 ex3
  have f_3 : 0 ≤ (gF z 14 b1.toNatClampNeg).toInt ∧ (gF z 14 b1.toNatClampNeg).toInt ≤ 3 := ht.2 14 _
  have ix3 : x3.toInt = (gF z 14 b1.toNatClampNeg).toInt := by rw [ex3]
  intro K5 hK_4
  have L_5 : ∀ (n : Nat) (v4 : Int32), (x1.toInt ≤ v4.toInt) → (0 ≤ v4.toInt) → (v4.toInt ≤ 168) → (168 - v4.toInt).toNat < n → K5 v4 := by
    intro n
    induction n with
    | zero => intro v4 w_6 w_7 w_8 m_10; omega
    | succ n ih_9 =>
      intro v4 w_6 w_7 w_8 m_10
      refine hK_4 v4 ?_
      refine ⟨fun c6 => ?_, fun c6 => ?_⟩
      · skip
        have i_11 := i_le rfl rfl c6
        have g_12 : (1 : Int32).toInt = 1 := by decide
        exact hk ((1 : Int32)) (Or.inl ⟨rfl, trivial⟩)
      · skip
        have i_13 := i_nle rfl rfl c6
        refine ⟨vin (a_sub (a_add (a_mul rfl (show (4 : Int32).toInt = 4 by decide) (by omega) (by omega)) rfl (by omega) (by omega)) rfl (by omega) (by omega)) (by omega) (by omega), ?_⟩
        refine ⟨vin (a_sub (a_add (a_mul rfl (show (4 : Int32).toInt = 4 by decide) (by omega) (by omega)) rfl (by omega) (by omega)) rfl (by omega) (by omega)) (by omega) (by omega), ?_⟩
        intro x7 ex7
        have ix7 : x7.toInt = ((gF z 18 (((b1 * (4 : Int32)) + v4) - b2).toNatClampNeg) + (gF z 18 (((b3 * (4 : Int32)) + v4) - b4).toNatClampNeg)).toInt := by rw [ex7]
        refine s_X0_allDraw v4 z _ ht (by omega) (fun r9 hp_14 => ?_)
        refine ⟨fun c10 => ?_, fun c10 => ?_⟩
        · skip
          have i_15 := i_le rfl rfl c10
          refine ⟨vin rfl (by omega) (by omega), ?_⟩
          intro K11 hK_16
          refine ⟨fun c13 => ?_, fun c13 => ?_⟩
          · skip
            have f_17 : 0 ≤ (gF z 14 b3.toNatClampNeg).toInt ∧ (gF z 14 b3.toNatClampNeg).toInt ≤ 3 := ht.2 14 _
            have i_18 := i_ne rfl rfl c13
            refine hK_16  ?_
            intro y_19 ey_19
            have iy_19 : y_19.toInt = (v4.toInt + (1)) := by rw [ey_19]; exact (a_add rfl (show (1 : Int32).toInt = 1 by decide) (by omega) (by omega))
            exact ih_9 y_19 (by omega) (by omega) (by omega) (by omega)
          · skip
            have f_20 : 0 ≤ (gF z 14 b3.toNatClampNeg).toInt ∧ (gF z 14 b3.toNatClampNeg).toInt ≤ 3 := ht.2 14 _
            have i_21 := i_eq rfl rfl c13
            refine s_X0_draws x3 v4 z _ ht (by omega) (by omega) (fun r15 hp_22 => ?_)
            refine ⟨vin rfl (by omega) (by omega), ?_⟩
            refine ⟨fun c16 => ?_, fun c16 => ?_⟩
            · skip
              have i_23 := i_le rfl rfl c16
              refine hK_16  ?_
              intro y_24 ey_24
              have iy_24 : y_24.toInt = (v4.toInt + (1)) := by rw [ey_24]; exact (a_add rfl (show (1 : Int32).toInt = 1 by decide) (by omega) (by omega))
              exact ih_9 y_24 (by omega) (by omega) (by omega) (by omega)
            · skip
              have i_25 := i_nle rfl rfl c16
              have g_26 : (0 : Int32).toInt = 0 := by decide
              exact hk ((0 : Int32)) (Or.inr ⟨rfl, trivial⟩)
        · skip
          have i_27 := i_nle rfl rfl c10
          have g_28 : (0 : Int32).toInt = 0 := by decide
          exact hk ((0 : Int32)) (Or.inr ⟨rfl, trivial⟩)
  exact L_5 ((168 - x1.toInt).toNat + 1) x1 (by omega) (by omega) (by omega) (by omega)

set_option maxHeartbeats 2000000 in
theorem s_X6_narrow (b1 : Int32) (b2 : Int32) (z : St) (P : Int32 → St → Prop) (ht : TX z) (h0 : 0 ≤ b1.toInt ∧ b1.toInt ≤ 4) (h1 : 0 ≤ b2.toInt ∧ b2.toInt ≤ 23) (hk : ∀ (r : Int32) (z2 : St), TX z2 → Same [] [30] z z2 → ((r = 1 ∧ (True)) ∨ (r = 0 ∧ (True))) → P r z2) : wp_X6_narrow b1 b2 z P := by
  unfold wp_X6_narrow
  intro K3 hK_1
  have L_2 : ∀ (n : Nat) (v1 : Int64) (v2 : Int32) (z4 : St), TX z4 → Same [] [30] z z4 → (0 ≤ v2.toInt) → (v2.toInt ≤ 5) → (5 - v2.toInt).toNat < n → K3 v1 v2 z4 := by
    intro n
    induction n with
    | zero => intro v1 v2 z4 tz4 ocz4 w_3 w_4 m_6; omega
    | succ n ih_5 =>
      intro v1 v2 z4 tz4 ocz4 w_3 w_4 m_6
      refine hK_1 v1 v2 z4 ?_
      refine ⟨fun c5 => ?_, fun c5 => ?_⟩
      · skip
        have f_7 : 0 ≤ (gI z4 2213).toInt ∧ (gI z4 2213).toInt ≤ 5 := tz4.1 2213
        have q_8 := (ocz4.fi 2213 (by decide))
        have f_9 : 0 ≤ (gI z 2213).toInt ∧ (gI z 2213).toInt ≤ 5 := ht.1 2213
        have i_10 := i_le rfl rfl c5
        refine ⟨vin (a_add rfl (show (1 : Int32).toInt = 1 by decide) (by omega) (by omega)) (by omega) (by omega), ?_⟩
        intro z6 ez6
        have tz6 : TX z6 := by rw [ez6]; exact Ty_wL tz4
        have oz6 : Same [] [30] z z6 := ocz4.l ez6
        have g_11 : (1 : Int32).toInt = 1 := by decide
        exact hk ((1 : Int32)) z6 tz6 oz6 (Or.inl ⟨rfl, trivial⟩)
      · skip
        have f_12 : 0 ≤ (gI z4 2213).toInt ∧ (gI z4 2213).toInt ≤ 5 := tz4.1 2213
        have q_13 := (ocz4.fi 2213 (by decide))
        have f_14 : 0 ≤ (gI z 2213).toInt ∧ (gI z 2213).toInt ≤ 5 := ht.1 2213
        have i_15 := i_nle rfl rfl c5
        refine ⟨vin (a_add (a_mul rfl (show (5 : Int32).toInt = 5 by decide) (by omega) (by omega)) rfl (by omega) (by omega)) (by omega) (by omega), ?_⟩
        refine ⟨vin (a_add (a_mul (a_add (a_mul rfl (show (24 : Int32).toInt = 24 by decide) (by omega) (by omega)) rfl (by omega) (by omega)) (show (5 : Int32).toInt = 5 by decide) (by omega) (by omega)) rfl (by omega) (by omega)) (by omega) (by omega), ?_⟩
        intro x7 ex7
        have q_16 := (ocz4.ff 29 ((((b1 * (24 : Int32)) + b2) * (5 : Int32)) + v2).toNatClampNeg (by decide))
        have ix7 : x7.toInt = ((gF z4 30 ((b1 * (5 : Int32)) + v2).toNatClampNeg) &&& (gF z4 29 ((((b1 * (24 : Int32)) + b2) * (5 : Int32)) + v2).toNatClampNeg)).toInt := by rw [ex7]
        refine ⟨fun c8 => ?_, fun c8 => ?_⟩
        · skip
          have i_17 := i_ne rfl (show (0 : Int32).toInt = 0 by decide) c8
          refine ⟨vin (a_add (a_mul (a_add rfl (show (1 : Int32).toInt = 1 by decide) (by omega) (by omega)) (show (5 : Int32).toInt = 5 by decide) (by omega) (by omega)) rfl (by omega) (by omega)) (by omega) (by omega), ?_⟩
          intro z9 ez9
          have tz9 : TX z9 := by rw [ez9]; exact Ty_wR tz4 trivial
          have oz9 : Same [] [30] z z9 := ocz4.r (by decide) ez9
          refine s_X6_leastOf v2 x7 z9 _ tz9 (by omega) (fun r11 hp_18 => ?_)
          intro x12 ex12
          intro x13 ex13
          have ix13 : x13.toInt = (v2.toInt + (1)) := by rw [ex13]; exact (a_add rfl (show (1 : Int32).toInt = 1 by decide) (by omega) (by omega))
          exact ih_5 x12 x13 z9 tz9 oz9 (by omega) (by omega) (by omega)
        · skip
          have i_19 := i_eq rfl (show (0 : Int32).toInt = 0 by decide) c8
          have g_20 : (0 : Int32).toInt = 0 := by decide
          exact hk ((0 : Int32)) z4 tz4 ocz4 (Or.inr ⟨rfl, trivial⟩)
  intro x14 ex14
  have ix14 : x14.toInt = (b1.toInt + (1)) := by rw [ex14]; exact (a_add rfl (show (1 : Int32).toInt = 1 by decide) (by omega) (by omega))
  exact L_2 ((5 - x14.toInt).toNat + 1) ((0 : Int64)) x14 z ht (Same.rf (z := z)) (by omega) (by omega) (by omega)
