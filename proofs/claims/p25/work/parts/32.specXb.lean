set_option maxHeartbeats 2000000 in
theorem s_X0_bears (b1 : Int32) (b2 : Int32) (b3 : Int32) (z : St) (P : Int32 → Prop) (ht : TX z) (h0 : 0 ≤ b1.toInt ∧ b1.toInt ≤ 3) (h1 : 0 ≤ b2.toInt ∧ b2.toInt ≤ 167) (hk : ∀ r : Int32, (r = 1 ∧ (True)) ∨ (r = 0 ∧ (True)) → P r) : wp_X0_bears b1 b2 b3 z P := by
  unfold wp_X0_bears
  refine s_X0_draws b1 b2 z _ ht (by omega) (by omega) (fun r2 hp_1 => ?_)
  refine ⟨vin rfl (by omega) (by omega), ?_⟩
  refine ⟨fun c3 => ?_, fun c3 => ?_⟩
  · skip
    have i_2 := i_lt rfl rfl c3
    have g_3 : (0 : Int32).toInt = 0 := by decide
    exact hk ((0 : Int32)) (Or.inr ⟨rfl, trivial⟩)
  · skip
    have i_4 := i_nlt rfl rfl c3
    refine s_X0_allDraw b2 z _ ht (by omega) (fun r5 hp_5 => ?_)
    refine ⟨fun c6 => ?_, fun c6 => ?_⟩
    · skip
      have i_6 := i_lt rfl rfl c6
      have g_7 : (0 : Int32).toInt = 0 := by decide
      exact hk ((0 : Int32)) (Or.inr ⟨rfl, trivial⟩)
    · skip
      have i_8 := i_nlt rfl rfl c6
      have g_9 : (1 : Int32).toInt = 1 := by decide
      exact hk ((1 : Int32)) (Or.inl ⟨rfl, trivial⟩)

set_option maxHeartbeats 2000000 in
theorem s_X1_isBorne (b1 : Int32) (b2 : Int32) (z : St) (P : Int32 → Prop) (ht : TX z) (h0 : 0 ≤ b1.toInt ∧ b1.toInt ≤ 15) (h1 : 0 ≤ b2.toInt ∧ b2.toInt ≤ 167) (h2 : b2.toInt + (gF z 17 b1.toNatClampNeg).toInt ≤ 168) (hk : ∀ r : Int32, (r = 1 ∧ (True)) ∨ (r = 0 ∧ (True)) → P r) : wp_X1_isBorne b1 b2 z P := by
  unfold wp_X1_isBorne
  intro K2 hK_1
  have L_2 : ∀ (n : Nat) (v1 : Int32), (0 ≤ v1.toInt) → (v1.toInt ≤ 4) → (4 - v1.toInt).toNat < n → K2 v1 := by
    intro n
    induction n with
    | zero => intro v1 w_3 w_4 m_6; omega
    | succ n ih_5 =>
      intro v1 w_3 w_4 m_6
      refine hK_1 v1 ?_
      refine ⟨vin rfl (by omega) (by omega), ?_⟩
      refine ⟨fun c3 => ?_, fun c3 => ?_⟩
      · skip
        have f_7 : 0 ≤ (gF z 17 b1.toNatClampNeg).toInt ∧ (gF z 17 b1.toNatClampNeg).toInt ≤ 4 := ht.2 17 _
        have i_8 := i_le rfl rfl c3
        have g_9 : (1 : Int32).toInt = 1 := by decide
        exact hk ((1 : Int32)) (Or.inl ⟨rfl, trivial⟩)
      · skip
        have f_10 : 0 ≤ (gF z 17 b1.toNatClampNeg).toInt ∧ (gF z 17 b1.toNatClampNeg).toInt ≤ 4 := ht.2 17 _
        have i_11 := i_nle rfl rfl c3
        refine ⟨vin rfl (by omega) (by omega), ?_⟩
        refine ⟨vin (a_add (a_mul rfl (show (4 : Int32).toInt = 4 by decide) (by omega) (by omega)) rfl (by omega) (by omega)) (by omega) (by omega), ?_⟩
        have f_12 : 0 ≤ (gF z 14 b1.toNatClampNeg).toInt ∧ (gF z 14 b1.toNatClampNeg).toInt ≤ 3 := ht.2 14 _
        have g_13 : (b2 + v1).toInt = (b2.toInt + v1.toInt) := (a_add rfl rfl (by omega) (by omega))
        refine s_X0_bears (gF z 14 b1.toNatClampNeg) (b2 + v1) (gF z 18 ((b1 * ((4 : Int32))) + v1).toNatClampNeg) z _ ht (by omega) (by omega) (fun r5 hp_14 => ?_)
        rcases hp_14 with ⟨er5, hp_14⟩ | ⟨er5, hp_14⟩
        · subst er5
          refine ⟨fun _ => ?_, fun hc => absurd hc (by decide)⟩
          intro x7 ex7
          have ix7 : x7.toInt = (v1.toInt + (1)) := by rw [ex7]; exact (a_add rfl (show (1 : Int32).toInt = 1 by decide) (by omega) (by omega))
          exact ih_5 x7 (by omega) (by omega) (by omega)
        · subst er5
          refine ⟨fun hc => absurd hc (by decide), fun _ => ?_⟩
          have g_15 : (0 : Int32).toInt = 0 := by decide
          exact hk ((0 : Int32)) (Or.inr ⟨rfl, trivial⟩)
  have g_16 : (0 : Int32).toInt = 0 := by decide
  exact L_2 ((4 - (0 : Int32).toInt).toNat + 1) ((0 : Int32)) (by omega) (by omega) (by omega)

set_option maxHeartbeats 2000000 in
theorem s_X5_isQuiet_c34 (b1 : Int32) (b2 : Int32) (z : St) (P : Int32 → Prop) (ht : TX z) (h0 : 0 ≤ b1.toInt ∧ b1.toInt ≤ 3) (hk : ∀ r : Int32, (r = 1 ∧ (True)) ∨ (r = 0 ∧ (True)) → P r) : wp_X5_isQuiet_c34 b1 b2 z P := by
  unfold wp_X5_isQuiet_c34
  refine ⟨vin rfl (by omega) (by omega), ?_⟩
  refine ⟨fun c1 => ?_, fun c1 => ?_⟩
  · skip
    have i_1 := i_eq rfl (show (0 : Int32).toInt = 0 by decide) c1
    have g_2 : (0 : Int32).toInt = 0 := by decide
    exact hk ((0 : Int32)) (Or.inr ⟨rfl, trivial⟩)
  · skip
    have i_3 := i_ne rfl (show (0 : Int32).toInt = 0 by decide) c1
    have g_4 : (1 : Int32).toInt = 1 := by decide
    exact hk ((1 : Int32)) (Or.inl ⟨rfl, trivial⟩)

set_option maxHeartbeats 2000000 in
theorem s_X2_mayBegin (b1 : Int32) (b2 : Int32) (z : St) (P : Int32 → Prop) (ht : TX z) (h0 : 0 ≤ b1.toInt ∧ b1.toInt ≤ 15) (hk : ∀ r : Int32, (r = 1 ∧ (0 ≤ b2.toInt ∧ b2.toInt + (gF z 17 b1.toNatClampNeg).toInt ≤ 168 ∧ (gF z 15 b1.toNatClampNeg).toInt ≤ b2.toInt ∧ b2.toInt ≤ (gF z 16 b1.toNatClampNeg).toInt)) ∨ (r = 0 ∧ (True)) → P r) : wp_X2_mayBegin b1 b2 z P := by
  unfold wp_X2_mayBegin
  refine ⟨vin rfl (by omega) (by omega), ?_⟩
  intro x1 ex1
  have f_1 : 0 ≤ (gF z 17 b1.toNatClampNeg).toInt ∧ (gF z 17 b1.toNatClampNeg).toInt ≤ 4 := ht.2 17 _
  have ix1 : x1.toInt = (gF z 17 b1.toNatClampNeg).toInt := by rw [ex1]
  refine ⟨fun c2 => ?_, fun c2 => ?_⟩
  · skip
    have f_2 : 0 ≤ (gI z 2104).toInt ∧ (gI z 2104).toInt ≤ 167 := ht.1 2104
    have i_3 := i_lt rfl rfl c2
    have g_4 : (0 : Int32).toInt = 0 := by decide
    have f_5 : 0 ≤ (gF z 15 b1.toNatClampNeg).toInt ∧ (gF z 15 b1.toNatClampNeg).toInt ≤ 167 := ht.2 15 _
    have f_6 : 0 ≤ (gF z 16 b1.toNatClampNeg).toInt ∧ (gF z 16 b1.toNatClampNeg).toInt ≤ 167 := ht.2 16 _
    exact hk ((0 : Int32)) (Or.inr ⟨rfl, trivial⟩)
  · skip
    have f_7 : 0 ≤ (gI z 2104).toInt ∧ (gI z 2104).toInt ≤ 167 := ht.1 2104
    have i_8 := i_nlt rfl rfl c2
    refine ⟨vin rfl (by omega) (by omega), ?_⟩
    refine ⟨fun c3 => ?_, fun c3 => ?_⟩
    · skip
      have f_9 : 0 ≤ (gF z 15 b1.toNatClampNeg).toInt ∧ (gF z 15 b1.toNatClampNeg).toInt ≤ 167 := ht.2 15 _
      have i_10 := i_lt rfl rfl c3
      have g_11 : (0 : Int32).toInt = 0 := by decide
      have f_12 : 0 ≤ (gF z 16 b1.toNatClampNeg).toInt ∧ (gF z 16 b1.toNatClampNeg).toInt ≤ 167 := ht.2 16 _
      exact hk ((0 : Int32)) (Or.inr ⟨rfl, trivial⟩)
    · skip
      have f_13 : 0 ≤ (gF z 15 b1.toNatClampNeg).toInt ∧ (gF z 15 b1.toNatClampNeg).toInt ≤ 167 := ht.2 15 _
      have i_14 := i_nlt rfl rfl c3
      refine ⟨vin rfl (by omega) (by omega), ?_⟩
      refine ⟨fun c4 => ?_, fun c4 => ?_⟩
      · skip
        have f_15 : 0 ≤ (gF z 16 b1.toNatClampNeg).toInt ∧ (gF z 16 b1.toNatClampNeg).toInt ≤ 167 := ht.2 16 _
        have i_16 := i_lt rfl rfl c4
        have g_17 : (0 : Int32).toInt = 0 := by decide
        exact hk ((0 : Int32)) (Or.inr ⟨rfl, trivial⟩)
      · skip
        have f_18 : 0 ≤ (gF z 16 b1.toNatClampNeg).toInt ∧ (gF z 16 b1.toNatClampNeg).toInt ≤ 167 := ht.2 16 _
        have i_19 := i_nlt rfl rfl c4
        refine ⟨fun c5 => ?_, fun c5 => ?_⟩
        · skip
          have i_20 := i_le (a_add rfl rfl (by omega) (by omega)) (show (168 : Int32).toInt = 168 by decide) c5
          intro K7 hK_21
          have L_22 : ∀ (n : Nat) (v6 : Int32), (0 ≤ b2.toInt) → (b2.toInt + (gF z 17 b1.toNatClampNeg).toInt ≤ 168) → (b2.toInt ≤ v6.toInt) → (v6.toInt ≤ 168) → (168 - v6.toInt).toNat < n → K7 v6 := by
            intro n
            induction n with
            | zero => intro v6 w_23 w_24 w_25 w_26 m_28; omega
            | succ n ih_27 =>
              intro v6 w_23 w_24 w_25 w_26 m_28
              refine hK_21 v6 ?_
              refine ⟨fun c8 => ?_, fun c8 => ?_⟩
              · skip
                have i_29 := i_le (a_add rfl rfl (by omega) (by omega)) rfl c8
                refine s_X2_isInTurn b1 b2 z _ ht (by omega) (fun r10 hp_30 => ?_)
                rcases hp_30 with ⟨er10, hp_30⟩ | ⟨er10, hp_30⟩
                · subst er10
                  refine ⟨fun hc => absurd hc (by decide), fun _ => ?_⟩
                  refine s_X1_isBorne b1 b2 z _ ht (by omega) (by omega) (by omega) (fun r13 hp_31 => ?_)
                  rcases hp_31 with ⟨er13, hp_31⟩ | ⟨er13, hp_31⟩
                  · subst er13
                    refine ⟨fun hc => absurd hc (by decide), fun _ => ?_⟩
                    have g_32 : (1 : Int32).toInt = 1 := by decide
                    exact hk ((1 : Int32)) (Or.inl ⟨rfl, (by omega)⟩)
                  · subst er13
                    refine ⟨fun _ => ?_, fun hc => absurd (show ((0 : Int32)) = ((0 : Int32)) by decide) hc⟩
                    have g_33 : (0 : Int32).toInt = 0 := by decide
                    exact hk ((0 : Int32)) (Or.inr ⟨rfl, trivial⟩)
                · subst er10
                  refine ⟨fun _ => ?_, fun hc => absurd (show ((0 : Int32)) = ((0 : Int32)) by decide) hc⟩
                  have g_34 : (0 : Int32).toInt = 0 := by decide
                  exact hk ((0 : Int32)) (Or.inr ⟨rfl, trivial⟩)
              · skip
                have i_35 := i_nle (a_add rfl rfl (by omega) (by omega)) rfl c8
                refine ⟨vin rfl (by omega) (by omega), ?_⟩
                have f_36 : 0 ≤ (gF z 14 b1.toNatClampNeg).toInt ∧ (gF z 14 b1.toNatClampNeg).toInt ≤ 3 := ht.2 14 _
                have g_37 : (v6 - v6 / (24 : Int32) * (24 : Int32)).toInt = (v6.toInt % 24) := (a_rem rfl (by omega) rfl)
                refine s_X5_isQuiet_c34 (gF z 14 b1.toNatClampNeg) (v6 - v6 / ((24 : Int32)) * ((24 : Int32))) z _ ht (by omega) (fun r16 hp_38 => ?_)
                rcases hp_38 with ⟨er16, hp_38⟩ | ⟨er16, hp_38⟩
                · subst er16
                  refine ⟨fun _ => ?_, fun hc => absurd hc (by decide)⟩
                  have g_39 : (0 : Int32).toInt = 0 := by decide
                  exact hk ((0 : Int32)) (Or.inr ⟨rfl, trivial⟩)
                · subst er16
                  refine ⟨fun hc => absurd hc (by decide), fun _ => ?_⟩
                  refine ⟨vin rfl (by omega) (by omega), ?_⟩
                  refine ⟨fun c18 => ?_, fun c18 => ?_⟩
                  · skip
                    have i_40 := i_le rfl rfl c18
                    intro x19 ex19
                    have ix19 : x19.toInt = (v6.toInt + (1)) := by rw [ex19]; exact (a_add rfl (show (1 : Int32).toInt = 1 by decide) (by omega) (by omega))
                    exact ih_27 x19 (by omega) (by omega) (by omega) (by omega) (by omega)
                  · skip
                    have i_41 := i_nle rfl rfl c18
                    have g_42 : (0 : Int32).toInt = 0 := by decide
                    exact hk ((0 : Int32)) (Or.inr ⟨rfl, trivial⟩)
          exact L_22 ((168 - b2.toInt).toNat + 1) b2 (by omega) (by omega) (by omega) (by omega) (by omega)
        · skip
          have i_43 := i_nle (a_add rfl rfl (by omega) (by omega)) (show (168 : Int32).toInt = 168 by decide) c5
          have g_44 : (0 : Int32).toInt = 0 := by decide
          exact hk ((0 : Int32)) (Or.inr ⟨rfl, trivial⟩)

set_option maxHeartbeats 2000000 in
theorem s_X1_plan (b1 : Int32) (b2 : Int32) (z : St) (P : St → Prop) (ht : TX z) (hrx : RX z) (h0 : 0 ≤ b1.toInt ∧ b1.toInt ≤ 15) (h1 : 0 ≤ b2.toInt ∧ b2.toInt ≤ 167) (h2 : b1.toInt < (gI z 1308).toInt) (h3 : b2.toInt + (gF z 17 b1.toNatClampNeg).toInt ≤ 168) (hk : ∀ (z2 : St), TX z2 → Same [] [10, 12, 19, 20] z z2 → RX z2 → (True) → P z2) : wp_X1_plan b1 b2 z P := by
  unfold wp_X1_plan
  refine ⟨vin rfl (by omega) (by omega), ?_⟩
  intro z1 ez1
  have tz1 : TX z1 := by rw [ez1]; exact Ty_wR ht (show 0 ≤ (1 : Int32).toInt ∧ (1 : Int32).toInt ≤ 2 from by rw [(show (1 : Int32).toInt = 1 by decide)]; omega)
  have oz1 : Same [] [10, 12, 19, 20] z z1 := (Same.rf (z := z)).r (by decide) ez1
  refine ⟨vin rfl (by omega) (by omega), ?_⟩
  intro z2 ez2
  have tz2 : TX z2 := by rw [ez2]; exact Ty_wR tz1 (show -1 ≤ b2.toInt ∧ b2.toInt ≤ 167 from by omega)
  have oz2 : Same [] [10, 12, 19, 20] z z2 := oz1.r (by decide) ez2
  have cl_1 := clampI (x := b1) (n := 16) (vin rfl (by omega) (by omega))
  have xz2 : RX z2 := by rw [ez2, ez1]; exact RX_plan hrx (by omega) (by omega) (by omega)
  have g_2 : (1 : Int32).toInt = 1 := by decide
  have f_3 : 0 ≤ (gF z2 17 b1.toNatClampNeg).toInt ∧ (gF z2 17 b1.toNatClampNeg).toInt ≤ 4 := tz2.2 17 _
  have q_4 := ((show (gF z2 17 b1.toNatClampNeg).toInt = (gF z1 17 b1.toNatClampNeg).toInt by rw [ez2]; rfl)).trans (show (gF z1 17 b1.toNatClampNeg).toInt = (gF z 17 b1.toNatClampNeg).toInt by rw [ez1]; rfl)
  have f_5 : 0 ≤ (gF z 17 b1.toNatClampNeg).toInt ∧ (gF z 17 b1.toNatClampNeg).toInt ≤ 4 := ht.2 17 _
  have u_6 := hrx.1 b1.toNatClampNeg
  have u_7 := hrx.2.2.2 b1.toNatClampNeg
  have cl_8 := clampI (x := b1) (n := 16) (vin rfl (by omega) (by omega))
  have f_9 : 0 ≤ (gF z 19 b1.toNatClampNeg).toInt ∧ (gF z 19 b1.toNatClampNeg).toInt ≤ 2 := ht.2 19 _
  have f_10 : -1 ≤ (gF z 20 b1.toNatClampNeg).toInt ∧ (gF z 20 b1.toNatClampNeg).toInt ≤ 167 := ht.2 20 _
  have u_11 := xz2.1 b1.toNatClampNeg
  have u_12 := xz2.2.2.2 b1.toNatClampNeg
  have f_13 : 0 ≤ (gF z2 19 b1.toNatClampNeg).toInt ∧ (gF z2 19 b1.toNatClampNeg).toInt ≤ 2 := tz2.2 19 _
  have q_14 := ((show (gF z2 19 b1.toNatClampNeg).toInt = (gF z1 19 b1.toNatClampNeg).toInt by rw [ez2]; rfl)).trans (show (gF z1 19 b1.toNatClampNeg).toInt = (1 : Int32).toInt by rw [ez1, gF_upd, if_pos rfl])
  have q_15 : (1 : Int32).toInt = (1) := (show (1 : Int32).toInt = 1 by decide)
  have f_16 : -1 ≤ (gF z2 20 b1.toNatClampNeg).toInt ∧ (gF z2 20 b1.toNatClampNeg).toInt ≤ 167 := tz2.2 20 _
  have q_17 := (show (gF z2 20 b1.toNatClampNeg).toInt = b2.toInt by rw [ez2, gF_upd, if_pos rfl])
  refine s_X1_draw b1 b2 ((1 : Int32)) z2 _ tz2 (by omega) (by omega) (by omega) (fun z3 tz3 o_19 hp_18 => ?_)
  have oz3 : Same [] [10, 12, 19, 20] z z3 := oz2.tr o_19 (by decide) (by decide)
  have xz3 : RX z3 := RX_same xz2 o_19 (by decide) (by decide) (by decide) (by decide) (by decide) (by decide)
  exact hk z3 tz3 oz3 xz3 trivial

set_option maxHeartbeats 2000000 in
theorem s_X2_mayBeginAsOpen (b1 : Int32) (b2 : Int32) (z : St) (P : Int32 → St → Prop) (ht : TX z) (hrx : RX z) (h0 : 0 ≤ b1.toInt ∧ b1.toInt ≤ 15) (h1 : b1.toInt < (gI z 1308).toInt) (hk : ∀ (r : Int32) (z2 : St), TX z2 → Same [] [10, 12, 19, 20] z z2 → RX z2 → ((r = 1 ∧ (0 ≤ b2.toInt ∧ b2.toInt + (gF z 17 b1.toNatClampNeg).toInt ≤ 168 ∧ b2.toInt ≤ 167)) ∨ (r = 0 ∧ (True))) → P r z2) : wp_X2_mayBeginAsOpen b1 b2 z P := by
  unfold wp_X2_mayBeginAsOpen
  refine ⟨vin rfl (by omega) (by omega), ?_⟩
  intro x1 ex1
  have f_1 : -1 ≤ (gF z 20 b1.toNatClampNeg).toInt ∧ (gF z 20 b1.toNatClampNeg).toInt ≤ 167 := ht.2 20 _
  have u_2 := hrx.1 b1.toNatClampNeg
  have u_3 := hrx.2.2.2 b1.toNatClampNeg
  have cl_4 := clampI (x := b1) (n := 16) (vin rfl (by omega) (by omega))
  have f_5 : 0 ≤ (gF z 17 b1.toNatClampNeg).toInt ∧ (gF z 17 b1.toNatClampNeg).toInt ≤ 4 := ht.2 17 _
  have f_6 : 0 ≤ (gF z 19 b1.toNatClampNeg).toInt ∧ (gF z 19 b1.toNatClampNeg).toInt ≤ 2 := ht.2 19 _
  have ix1 : x1.toInt = (gF z 20 b1.toNatClampNeg).toInt := by rw [ex1]
  refine s_X1_reopen b1 z _ ht hrx (by omega) (fun z2 tz2 o_8 xz2 hp_7 => ?_)
  have oz2 : Same [] [10, 12, 19, 20] z z2 := (Same.rf (z := z)).tr o_8 (by decide) (by decide)
  refine s_X2_mayBegin b1 b2 z2 _ tz2 (by omega) (fun r5 hp_9 => ?_)
  rcases hp_9 with ⟨er5, hp_9⟩ | ⟨er5, hp_9⟩
  · subst er5
    have f_10 : 0 ≤ (gF z2 17 b1.toNatClampNeg).toInt ∧ (gF z2 17 b1.toNatClampNeg).toInt ≤ 4 := tz2.2 17 _
    have q_11 := (o_8.ff 17 b1.toNatClampNeg (by decide))
    have u_12 := xz2.1 b1.toNatClampNeg
    have u_13 := xz2.2.2.2 b1.toNatClampNeg
    have f_14 : 0 ≤ (gF z2 19 b1.toNatClampNeg).toInt ∧ (gF z2 19 b1.toNatClampNeg).toInt ≤ 2 := tz2.2 19 _
    have f_15 : -1 ≤ (gF z2 20 b1.toNatClampNeg).toInt ∧ (gF z2 20 b1.toNatClampNeg).toInt ≤ 167 := tz2.2 20 _
    have f_16 : 0 ≤ (gF z2 15 b1.toNatClampNeg).toInt ∧ (gF z2 15 b1.toNatClampNeg).toInt ≤ 167 := tz2.2 15 _
    have q_17 := (o_8.ff 15 b1.toNatClampNeg (by decide))
    have f_18 : 0 ≤ (gF z 15 b1.toNatClampNeg).toInt ∧ (gF z 15 b1.toNatClampNeg).toInt ≤ 167 := ht.2 15 _
    have u_19 := hrx.2.1 b1.toNatClampNeg
    have f_20 : 0 ≤ (gF z 16 b1.toNatClampNeg).toInt ∧ (gF z 16 b1.toNatClampNeg).toInt ≤ 167 := ht.2 16 _
    have u_21 := xz2.2.1 b1.toNatClampNeg
    have f_22 : 0 ≤ (gF z2 16 b1.toNatClampNeg).toInt ∧ (gF z2 16 b1.toNatClampNeg).toInt ≤ 167 := tz2.2 16 _
    have q_23 := (o_8.ff 16 b1.toNatClampNeg (by decide))
    refine ⟨fun c6 => ?_, fun c6 => ?_⟩
    · skip
      have i_24 := i_eq rfl (show (-1 : Int32).toInt = -1 by decide) c6
      have g_25 : (1 : Int32).toInt = 1 := by decide
      refine ⟨Or.inr rfl, ?_⟩
      exact hk ((1 : Int32)) z2 tz2 oz2 xz2 (Or.inl ⟨rfl, (by omega)⟩)
    · skip
      have i_26 := i_ne rfl (show (-1 : Int32).toInt = -1 by decide) c6
      have f_27 : 0 ≤ (gI z2 1308).toInt ∧ (gI z2 1308).toInt ≤ 16 := tz2.1 1308
      have q_28 := (o_8.fi 1308 (by decide))
      have f_29 : 0 ≤ (gI z 1308).toInt ∧ (gI z 1308).toInt ≤ 16 := ht.1 1308
      refine s_X1_plan b1 x1 z2 _ tz2 xz2 (by omega) (by omega) (by omega) (by omega) (fun z7 tz7 o_31 xz7 hp_30 => ?_)
      have oz7 : Same [] [10, 12, 19, 20] z z7 := oz2.tr o_31 (by decide) (by decide)
      have g_32 : (1 : Int32).toInt = 1 := by decide
      refine ⟨Or.inr rfl, ?_⟩
      exact hk ((1 : Int32)) z7 tz7 oz7 xz7 (Or.inl ⟨rfl, (by omega)⟩)
  · subst er5
    refine ⟨fun c6 => ?_, fun c6 => ?_⟩
    · skip
      have i_33 := i_eq rfl (show (-1 : Int32).toInt = -1 by decide) c6
      have g_34 : (0 : Int32).toInt = 0 := by decide
      refine ⟨Or.inl rfl, ?_⟩
      exact hk ((0 : Int32)) z2 tz2 oz2 xz2 (Or.inr ⟨rfl, trivial⟩)
    · skip
      have i_35 := i_ne rfl (show (-1 : Int32).toInt = -1 by decide) c6
      have f_36 : 0 ≤ (gI z2 1308).toInt ∧ (gI z2 1308).toInt ≤ 16 := tz2.1 1308
      have q_37 := (o_8.fi 1308 (by decide))
      have f_38 : 0 ≤ (gI z 1308).toInt ∧ (gI z 1308).toInt ≤ 16 := ht.1 1308
      have f_39 : 0 ≤ (gF z2 17 b1.toNatClampNeg).toInt ∧ (gF z2 17 b1.toNatClampNeg).toInt ≤ 4 := tz2.2 17 _
      have q_40 := (o_8.ff 17 b1.toNatClampNeg (by decide))
      have u_41 := xz2.1 b1.toNatClampNeg
      have u_42 := xz2.2.2.2 b1.toNatClampNeg
      have f_43 : 0 ≤ (gF z2 19 b1.toNatClampNeg).toInt ∧ (gF z2 19 b1.toNatClampNeg).toInt ≤ 2 := tz2.2 19 _
      have f_44 : -1 ≤ (gF z2 20 b1.toNatClampNeg).toInt ∧ (gF z2 20 b1.toNatClampNeg).toInt ≤ 167 := tz2.2 20 _
      refine s_X1_plan b1 x1 z2 _ tz2 xz2 (by omega) (by omega) (by omega) (by omega) (fun z7 tz7 o_46 xz7 hp_45 => ?_)
      have oz7 : Same [] [10, 12, 19, 20] z z7 := oz2.tr o_46 (by decide) (by decide)
      have g_47 : (0 : Int32).toInt = 0 := by decide
      refine ⟨Or.inl rfl, ?_⟩
      exact hk ((0 : Int32)) z7 tz7 oz7 xz7 (Or.inr ⟨rfl, trivial⟩)

set_option maxHeartbeats 2000000 in
theorem s_X8_may (b1 : Int32) (b2 : Int32) (z : St) (P : Int32 → St → Prop) (ht : TX z) (hrx : RX z)  (hk : ∀ (r : Int32) (z2 : St), TX z2 → Same [] [10, 12, 19, 20] z z2 → RX z2 → (True) → P r z2) : wp_X8_may b1 b2 z P := by
  unfold wp_X8_may
  refine s_X1_has b1 z _ ht  (fun r2 hp_1 => ?_)
  rcases hp_1 with ⟨er2, hp_1⟩ | ⟨er2, hp_1⟩
  · subst er2
    have f_2 : 0 ≤ (gI z 1308).toInt ∧ (gI z 1308).toInt ≤ 16 := ht.1 1308
    refine ⟨fun hc => absurd hc (by decide), fun _ => ?_⟩
    refine s_X8_isHour b2 z _ ht  (fun r5 hp_3 => ?_)
    rcases hp_3 with ⟨er5, hp_3⟩ | ⟨er5, hp_3⟩
    · subst er5
      refine ⟨fun hc => absurd hc (by decide), fun _ => ?_⟩
      refine ⟨vin rfl (by omega) (by omega), ?_⟩
      refine ⟨fun c7 => ?_, fun c7 => ?_⟩
      · skip
        have f_4 : 0 ≤ (gF z 19 b1.toNatClampNeg).toInt ∧ (gF z 19 b1.toNatClampNeg).toInt ≤ 2 := ht.2 19 _
        have u_5 := hrx.1 b1.toNatClampNeg
        have u_6 := hrx.2.2.2 b1.toNatClampNeg
        have cl_7 := clampI (x := b1) (n := 16) (vin rfl (by omega) (by omega))
        have f_8 : 0 ≤ (gF z 17 b1.toNatClampNeg).toInt ∧ (gF z 17 b1.toNatClampNeg).toInt ≤ 4 := ht.2 17 _
        have f_9 : -1 ≤ (gF z 20 b1.toNatClampNeg).toInt ∧ (gF z 20 b1.toNatClampNeg).toInt ≤ 167 := ht.2 20 _
        have i_10 := i_ne rfl (show (2 : Int32).toInt = 2 by decide) c7
        refine s_X2_mayBeginAsOpen b1 b2 z _ ht hrx (by omega) (by omega) (fun r9 z8 tz8 o_12 xz8 hp_11 => ?_)
        have oz8 : Same [] [10, 12, 19, 20] z z8 := (Same.rf (z := z)).tr o_12 (by decide) (by decide)
        rcases hp_11 with ⟨er9, hp_11⟩ | ⟨er9, hp_11⟩
        · subst er9
          refine ⟨fun hc => absurd hc (by decide), fun _ => ?_⟩
          have g_13 : (1 : Int32).toInt = 1 := by decide
          exact hk ((1 : Int32)) z8 tz8 oz8 xz8 trivial
        · subst er9
          refine ⟨fun _ => ?_, fun hc => absurd (show ((0 : Int32)) = ((0 : Int32)) by decide) hc⟩
          have g_14 : (0 : Int32).toInt = 0 := by decide
          exact hk ((0 : Int32)) z8 tz8 oz8 xz8 trivial
      · skip
        have f_15 : 0 ≤ (gF z 19 b1.toNatClampNeg).toInt ∧ (gF z 19 b1.toNatClampNeg).toInt ≤ 2 := ht.2 19 _
        have u_16 := hrx.1 b1.toNatClampNeg
        have u_17 := hrx.2.2.2 b1.toNatClampNeg
        have cl_18 := clampI (x := b1) (n := 16) (vin rfl (by omega) (by omega))
        have f_19 : 0 ≤ (gF z 17 b1.toNatClampNeg).toInt ∧ (gF z 17 b1.toNatClampNeg).toInt ≤ 4 := ht.2 17 _
        have f_20 : -1 ≤ (gF z 20 b1.toNatClampNeg).toInt ∧ (gF z 20 b1.toNatClampNeg).toInt ≤ 167 := ht.2 20 _
        have i_21 := i_eq rfl (show (2 : Int32).toInt = 2 by decide) c7
        have g_22 : (-1 : Int32).toInt = -1 := by decide
        exact hk ((-1 : Int32)) z ht (Same.rf (z := z)) hrx trivial
    · subst er5
      refine ⟨fun _ => ?_, fun hc => absurd (show ((0 : Int32)) = ((0 : Int32)) by decide) hc⟩
      have g_23 : (-1 : Int32).toInt = -1 := by decide
      exact hk ((-1 : Int32)) z ht (Same.rf (z := z)) hrx trivial
  · subst er2
    have f_24 : 0 ≤ (gI z 1308).toInt ∧ (gI z 1308).toInt ≤ 16 := ht.1 1308
    refine ⟨fun _ => ?_, fun hc => absurd (show ((0 : Int32)) = ((0 : Int32)) by decide) hc⟩
    have g_25 : (-1 : Int32).toInt = -1 := by decide
    exact hk ((-1 : Int32)) z ht (Same.rf (z := z)) hrx trivial

set_option maxHeartbeats 2000000 in
theorem s_X8_put (b1 : Int32) (b2 : Int32) (z : St) (P : Int32 → St → Prop) (ht : TX z) (hrx : RX z)  (hk : ∀ (r : Int32) (z2 : St), TX z2 → Same [8] [10, 12, 19, 20] z z2 → RX z2 → (True) → P r z2) : wp_X8_put b1 b2 z P := by
  unfold wp_X8_put
  refine s_X1_has b1 z _ ht  (fun r2 hp_1 => ?_)
  rcases hp_1 with ⟨er2, hp_1⟩ | ⟨er2, hp_1⟩
  · subst er2
    have f_2 : 0 ≤ (gI z 1308).toInt ∧ (gI z 1308).toInt ≤ 16 := ht.1 1308
    refine ⟨fun _ => ?_, fun hc => absurd hc (by decide)⟩
    refine ⟨vin rfl (by omega) (by omega), ?_⟩
    refine ⟨fun c4 => ?_, fun c4 => ?_⟩
    · skip
      have f_3 : 0 ≤ (gF z 19 b1.toNatClampNeg).toInt ∧ (gF z 19 b1.toNatClampNeg).toInt ≤ 2 := ht.2 19 _
      have u_4 := hrx.1 b1.toNatClampNeg
      have u_5 := hrx.2.2.2 b1.toNatClampNeg
      have cl_6 := clampI (x := b1) (n := 16) (vin rfl (by omega) (by omega))
      have f_7 : 0 ≤ (gF z 17 b1.toNatClampNeg).toInt ∧ (gF z 17 b1.toNatClampNeg).toInt ≤ 4 := ht.2 17 _
      have f_8 : -1 ≤ (gF z 20 b1.toNatClampNeg).toInt ∧ (gF z 20 b1.toNatClampNeg).toInt ≤ 167 := ht.2 20 _
      have i_9 := i_ne rfl (show (2 : Int32).toInt = 2 by decide) c4
      refine s_X2_mayBeginAsOpen b1 b2 z _ ht hrx (by omega) (by omega) (fun r6 z5 tz5 o_11 xz5 hp_10 => ?_)
      have oz5 : Same [8] [10, 12, 19, 20] z z5 := (Same.rf (z := z)).tr o_11 (by decide) (by decide)
      rcases hp_10 with ⟨er6, hp_10⟩ | ⟨er6, hp_10⟩
      · subst er6
        refine ⟨fun _ => ?_, fun hc => absurd hc (by decide)⟩
        refine s_X1_reopen b1 z5 _ tz5 xz5 (by omega) (fun z8 tz8 o_13 xz8 hp_12 => ?_)
        have oz8 : Same [8] [10, 12, 19, 20] z z8 := oz5.tr o_13 (by decide) (by decide)
        have f_14 : 0 ≤ (gI z8 1308).toInt ∧ (gI z8 1308).toInt ≤ 16 := tz8.1 1308
        have q_15 := ((o_13.fi 1308 (by decide))).trans (o_11.fi 1308 (by decide))
        have f_16 : 0 ≤ (gF z8 17 b1.toNatClampNeg).toInt ∧ (gF z8 17 b1.toNatClampNeg).toInt ≤ 4 := tz8.2 17 _
        have q_17 := ((o_13.ff 17 b1.toNatClampNeg (by decide))).trans (o_11.ff 17 b1.toNatClampNeg (by decide))
        have u_18 := xz8.1 b1.toNatClampNeg
        have u_19 := xz8.2.2.2 b1.toNatClampNeg
        have f_20 : 0 ≤ (gF z8 19 b1.toNatClampNeg).toInt ∧ (gF z8 19 b1.toNatClampNeg).toInt ≤ 2 := tz8.2 19 _
        have f_21 : -1 ≤ (gF z8 20 b1.toNatClampNeg).toInt ∧ (gF z8 20 b1.toNatClampNeg).toInt ≤ 167 := tz8.2 20 _
        refine s_X1_plan b1 b2 z8 _ tz8 xz8 (by omega) (by omega) (by omega) (by omega) (fun z10 tz10 o_23 xz10 hp_22 => ?_)
        have oz10 : Same [8] [10, 12, 19, 20] z z10 := oz8.tr o_23 (by decide) (by decide)
        have g_24 : (0 : Int32).toInt = 0 := by decide
        refine s_X8_accept ((0 : Int32)) z10 _ tz10  (fun r13 z12 tz12 o_26 hp_25 => ?_)
        have oz12 : Same [8] [10, 12, 19, 20] z z12 := oz10.tr o_26 (by decide) (by decide)
        have xz12 : RX z12 := RX_same xz10 o_26 (by decide) (by decide) (by decide) (by decide) (by decide) (by decide)
        exact hk r13 z12 tz12 oz12 xz12 trivial
      · subst er6
        refine ⟨fun hc => absurd hc (by decide), fun _ => ?_⟩
        have g_27 : (-6 : Int32).toInt = -6 := by decide
        refine s_X8_refuse ((-6 : Int32)) z5 _ tz5  (fun r15 z14 tz14 o_29 hp_28 => ?_)
        have oz14 : Same [8] [10, 12, 19, 20] z z14 := oz5.tr o_29 (by decide) (by decide)
        have xz14 : RX z14 := RX_same xz5 o_29 (by decide) (by decide) (by decide) (by decide) (by decide) (by decide)
        exact hk r15 z14 tz14 oz14 xz14 trivial
    · skip
      have f_30 : 0 ≤ (gF z 19 b1.toNatClampNeg).toInt ∧ (gF z 19 b1.toNatClampNeg).toInt ≤ 2 := ht.2 19 _
      have u_31 := hrx.1 b1.toNatClampNeg
      have u_32 := hrx.2.2.2 b1.toNatClampNeg
      have cl_33 := clampI (x := b1) (n := 16) (vin rfl (by omega) (by omega))
      have f_34 : 0 ≤ (gF z 17 b1.toNatClampNeg).toInt ∧ (gF z 17 b1.toNatClampNeg).toInt ≤ 4 := ht.2 17 _
      have f_35 : -1 ≤ (gF z 20 b1.toNatClampNeg).toInt ∧ (gF z 20 b1.toNatClampNeg).toInt ≤ 167 := ht.2 20 _
      have i_36 := i_eq rfl (show (2 : Int32).toInt = 2 by decide) c4
      have g_37 : (-3 : Int32).toInt = -3 := by decide
      refine s_X8_refuse ((-3 : Int32)) z _ ht  (fun r17 z16 tz16 o_39 hp_38 => ?_)
      have oz16 : Same [8] [10, 12, 19, 20] z z16 := (Same.rf (z := z)).tr o_39 (by decide) (by decide)
      have xz16 : RX z16 := RX_same hrx o_39 (by decide) (by decide) (by decide) (by decide) (by decide) (by decide)
      exact hk r17 z16 tz16 oz16 xz16 trivial
  · subst er2
    have f_40 : 0 ≤ (gI z 1308).toInt ∧ (gI z 1308).toInt ≤ 16 := ht.1 1308
    refine ⟨fun hc => absurd hc (by decide), fun _ => ?_⟩
    have g_41 : (-2 : Int32).toInt = -2 := by decide
    refine s_X8_refuse ((-2 : Int32)) z _ ht  (fun r19 z18 tz18 o_43 hp_42 => ?_)
    have oz18 : Same [8] [10, 12, 19, 20] z z18 := (Same.rf (z := z)).tr o_43 (by decide) (by decide)
    have xz18 : RX z18 := RX_same hrx o_43 (by decide) (by decide) (by decide) (by decide) (by decide) (by decide)
    exact hk r19 z18 tz18 oz18 xz18 trivial

set_option maxHeartbeats 2000000 in
theorem s_X1_inState (b1 : Int32) (z : St) (P : Int32 → Prop) (ht : TX z)  (hk : ∀ r : Int32, True → P r) : wp_X1_inState b1 z P := by
  unfold wp_X1_inState
  intro K3 hK_1
  have L_2 : ∀ (n : Nat) (v1 : Int32) (v2 : Int32), (0 ≤ v2.toInt) → (v2.toInt ≤ 16) → (16 - v2.toInt).toNat < n → K3 v1 v2 := by
    intro n
    induction n with
    | zero => intro v1 v2 w_3 w_4 m_6; omega
    | succ n ih_5 =>
      intro v1 v2 w_3 w_4 m_6
      refine hK_1 v1 v2 ?_
      refine ⟨fun c4 => ?_, fun c4 => ?_⟩
      · skip
        have f_7 : 0 ≤ (gI z 1308).toInt ∧ (gI z 1308).toInt ≤ 16 := ht.1 1308
        have i_8 := i_le rfl rfl c4
        exact hk v1 trivial
      · skip
        have f_9 : 0 ≤ (gI z 1308).toInt ∧ (gI z 1308).toInt ≤ 16 := ht.1 1308
        have i_10 := i_nle rfl rfl c4
        refine ⟨vin rfl (by omega) (by omega), ?_⟩
        intro K6 hK_11
        refine ⟨fun c8 => ?_, fun c8 => ?_⟩
        · skip
          have f_12 : 0 ≤ (gF z 19 v2.toNatClampNeg).toInt ∧ (gF z 19 v2.toNatClampNeg).toInt ≤ 2 := ht.2 19 _
          have i_13 := i_ne rfl rfl c8
          refine hK_11 v1 ?_
          intro y_14 ey_14
          have iy_14 : y_14.toInt = (v2.toInt + (1)) := by rw [ey_14]; exact (a_add rfl (show (1 : Int32).toInt = 1 by decide) (by omega) (by omega))
          exact ih_5 v1 y_14 (by omega) (by omega) (by omega)
        · skip
          have f_15 : 0 ≤ (gF z 19 v2.toNatClampNeg).toInt ∧ (gF z 19 v2.toNatClampNeg).toInt ≤ 2 := ht.2 19 _
          have i_16 := i_eq rfl rfl c8
          intro x9 ex9
          have ix9 : x9.toInt = (v1 + (1 : Int32)).toInt := by rw [ex9]
          refine hK_11 x9 ?_
          intro y_17 ey_17
          have iy_17 : y_17.toInt = (v2.toInt + (1)) := by rw [ey_17]; exact (a_add rfl (show (1 : Int32).toInt = 1 by decide) (by omega) (by omega))
          exact ih_5 x9 y_17 (by omega) (by omega) (by omega)
  have g_18 : (0 : Int32).toInt = 0 := by decide
  have g_19 : (0 : Int32).toInt = 0 := by decide
  exact L_2 ((16 - (0 : Int32).toInt).toNat + 1) ((0 : Int32)) ((0 : Int32)) (by omega) (by omega) (by omega)

set_option maxHeartbeats 2000000 in
theorem s_J7_fill_53178_25 (b2 : Int32) (z : St) (P : St → Prop) (ht : TX z) (h0 : 0 ≤ b2.toInt ∧ b2.toInt ≤ 24) (hk : ∀ (z2 : St), TX z2 → Same [] [25] z z2 → (True) → P z2) : wp_J7_fill_53178_25 b2 z P := by
  unfold wp_J7_fill_53178_25
  intro K3 hK_1
  have L_2 : ∀ (n : Nat) (v1 : Int32) (v2 : Int32) (z4 : St), TX z4 → Same [] [25] z z4 → (0 ≤ v1.toInt) → (v1.toInt ≤ 5) → (v2.toInt = 5) → (5 - v1.toInt).toNat < n → K3 v1 v2 z4 := by
    intro n
    induction n with
    | zero => intro v1 v2 z4 tz4 ocz4 w_3 w_4 w_5 m_7; omega
    | succ n ih_6 =>
      intro v1 v2 z4 tz4 ocz4 w_3 w_4 w_5 m_7
      refine hK_1 v1 v2 z4 ?_
      refine ⟨fun c5 => ?_, fun c5 => ?_⟩
      · skip
        have i_8 := i_le rfl rfl c5
        exact hk z4 tz4 ocz4 trivial
      · skip
        have i_9 := i_nle rfl rfl c5
        refine ⟨vin rfl (by omega) (by omega), ?_⟩
        intro z6 ez6
        have tz6 : TX z6 := by rw [ez6]; exact Ty_wR tz4 (show 0 ≤ b2.toInt ∧ b2.toInt ≤ 24 from by omega)
        have oz6 : Same [] [25] z z6 := ocz4.r (by decide) ez6
        intro x7 ex7
        have ix7 : x7.toInt = (v1.toInt + (1)) := by rw [ex7]; exact (a_add rfl (show (1 : Int32).toInt = 1 by decide) (by omega) (by omega))
        exact ih_6 x7 v2 z6 tz6 oz6 (by omega) (by omega) (by omega) (by omega)
  have g_10 : (0 : Int32).toInt = 0 := by decide
  have g_11 : (5 : Int32).toInt = 5 := by decide
  exact L_2 ((5 - (0 : Int32).toInt).toNat + 1) ((0 : Int32)) ((5 : Int32)) z ht (Same.rf (z := z)) (by omega) (by omega) (by omega) (by omega)

set_option maxHeartbeats 2000000 in
theorem s_J7_fill_53178_30 (b2 : Int32) (z : St) (P : St → Prop) (ht : TX z)  (hk : ∀ (z2 : St), TX z2 → Same [] [30] z z2 → (True) → P z2) : wp_J7_fill_53178_30 b2 z P := by
  unfold wp_J7_fill_53178_30
  intro K3 hK_1
  have L_2 : ∀ (n : Nat) (v1 : Int32) (v2 : Int32) (z4 : St), TX z4 → Same [] [30] z z4 → (0 ≤ v1.toInt) → (v1.toInt ≤ 30) → (v2.toInt = 30) → (30 - v1.toInt).toNat < n → K3 v1 v2 z4 := by
    intro n
    induction n with
    | zero => intro v1 v2 z4 tz4 ocz4 w_3 w_4 w_5 m_7; omega
    | succ n ih_6 =>
      intro v1 v2 z4 tz4 ocz4 w_3 w_4 w_5 m_7
      refine hK_1 v1 v2 z4 ?_
      refine ⟨fun c5 => ?_, fun c5 => ?_⟩
      · skip
        have i_8 := i_le rfl rfl c5
        exact hk z4 tz4 ocz4 trivial
      · skip
        have i_9 := i_nle rfl rfl c5
        refine ⟨vin rfl (by omega) (by omega), ?_⟩
        intro z6 ez6
        have tz6 : TX z6 := by rw [ez6]; exact Ty_wR tz4 trivial
        have oz6 : Same [] [30] z z6 := ocz4.r (by decide) ez6
        intro x7 ex7
        have ix7 : x7.toInt = (v1.toInt + (1)) := by rw [ex7]; exact (a_add rfl (show (1 : Int32).toInt = 1 by decide) (by omega) (by omega))
        exact ih_6 x7 v2 z6 tz6 oz6 (by omega) (by omega) (by omega) (by omega)
  have g_10 : (0 : Int32).toInt = 0 := by decide
  have g_11 : (30 : Int32).toInt = 30 := by decide
  exact L_2 ((30 - (0 : Int32).toInt).toNat + 1) ((0 : Int32)) ((30 : Int32)) z ht (Same.rf (z := z)) (by omega) (by omega) (by omega) (by omega)

set_option maxHeartbeats 2000000 in
theorem s_J7_fill_53178_29 (b2 : Int32) (z : St) (P : St → Prop) (ht : TX z)  (hk : ∀ (z2 : St), TX z2 → Same [] [29] z z2 → (True) → P z2) : wp_J7_fill_53178_29 b2 z P := by
  unfold wp_J7_fill_53178_29
  intro K3 hK_1
  have L_2 : ∀ (n : Nat) (v1 : Int32) (v2 : Int32) (z4 : St), TX z4 → Same [] [29] z z4 → (0 ≤ v1.toInt) → (v1.toInt ≤ 600) → (v2.toInt = 600) → (600 - v1.toInt).toNat < n → K3 v1 v2 z4 := by
    intro n
    induction n with
    | zero => intro v1 v2 z4 tz4 ocz4 w_3 w_4 w_5 m_7; omega
    | succ n ih_6 =>
      intro v1 v2 z4 tz4 ocz4 w_3 w_4 w_5 m_7
      refine hK_1 v1 v2 z4 ?_
      refine ⟨fun c5 => ?_, fun c5 => ?_⟩
      · skip
        have i_8 := i_le rfl rfl c5
        exact hk z4 tz4 ocz4 trivial
      · skip
        have i_9 := i_nle rfl rfl c5
        refine ⟨vin rfl (by omega) (by omega), ?_⟩
        intro z6 ez6
        have tz6 : TX z6 := by rw [ez6]; exact Ty_wR tz4 trivial
        have oz6 : Same [] [29] z z6 := ocz4.r (by decide) ez6
        intro x7 ex7
        have ix7 : x7.toInt = (v1.toInt + (1)) := by rw [ex7]; exact (a_add rfl (show (1 : Int32).toInt = 1 by decide) (by omega) (by omega))
        exact ih_6 x7 v2 z6 tz6 oz6 (by omega) (by omega) (by omega) (by omega)
  have g_10 : (0 : Int32).toInt = 0 := by decide
  have g_11 : (600 : Int32).toInt = 600 := by decide
  exact L_2 ((600 - (0 : Int32).toInt).toNat + 1) ((0 : Int32)) ((600 : Int32)) z ht (Same.rf (z := z)) (by omega) (by omega) (by omega) (by omega)

set_option maxHeartbeats 2000000 in
theorem s_X6_clear  (z : St) (P : St → Prop) (ht : TX z)  (hk : ∀ (z2 : St), TX z2 → Same [2213] [25, 29, 30] z z2 → (True) → P z2) : wp_X6_clear  z P := by
  unfold wp_X6_clear
  intro z1 ez1
  have tz1 : TX z1 := by rw [ez1]; exact Ty_wI ht (show 0 ≤ (0 : Int32).toInt ∧ (0 : Int32).toInt ≤ 5 from by rw [(show (0 : Int32).toInt = 0 by decide)]; omega)
  have oz1 : Same [2213] [25, 29, 30] z z1 := (Same.rf (z := z)).i (by decide) ez1
  have g_1 : (0 : Int32).toInt = 0 := by decide
  refine s_J7_fill_53178_25 ((0 : Int32)) z1 _ tz1 (by omega) (fun z2 tz2 o_3 hp_2 => ?_)
  have oz2 : Same [2213] [25, 29, 30] z z2 := oz1.tr o_3 (by decide) (by decide)
  have g_4 : (0 : Int32).toInt = 0 := by decide
  refine s_J7_fill_53178_30 ((0 : Int32)) z2 _ tz2  (fun z4 tz4 o_6 hp_5 => ?_)
  have oz4 : Same [2213] [25, 29, 30] z z4 := oz2.tr o_6 (by decide) (by decide)
  have g_7 : (0 : Int32).toInt = 0 := by decide
  refine s_J7_fill_53178_29 ((0 : Int32)) z4 _ tz4  (fun z6 tz6 o_9 hp_8 => ?_)
  have oz6 : Same [2213] [25, 29, 30] z z6 := oz4.tr o_9 (by decide) (by decide)
  exact hk z6 tz6 oz6 trivial

set_option maxHeartbeats 2000000 in
theorem s_X6_leastOf (b1 : Int32) (b2 : Int32) (z : St) (P : Int64 → Prop) (ht : TX z) (h0 : 0 ≤ b1.toInt ∧ b1.toInt ≤ 4) (hk : ∀ r : Int64, True → P r) : wp_X6_leastOf b1 b2 z P := by
  unfold wp_X6_leastOf
  intro K2 hK_1
  have L_2 : ∀ (n : Nat) (v1 : Int32), (0 ≤ v1.toInt) → (v1.toInt ≤ 24) → (24 - v1.toInt).toNat < n → K2 v1 := by
    intro n
    induction n with
    | zero => intro v1 w_3 w_4 m_6; omega
    | succ n ih_5 =>
      intro v1 w_3 w_4 m_6
      refine hK_1 v1 ?_
      refine ⟨vin rfl (by omega) (by omega), ?_⟩
      refine ⟨fun c3 => ?_, fun c3 => ?_⟩
      · skip
        have f_7 : 0 ≤ (gF z 25 b1.toNatClampNeg).toInt ∧ (gF z 25 b1.toNatClampNeg).toInt ≤ 24 := ht.2 25 _
        have i_8 := i_le rfl rfl c3
        exact hk ((1000000000000000000 : Int64)) trivial
      · skip
        have f_9 : 0 ≤ (gF z 25 b1.toNatClampNeg).toInt ∧ (gF z 25 b1.toNatClampNeg).toInt ≤ 24 := ht.2 25 _
        have i_10 := i_nle rfl rfl c3
        refine ⟨vin (a_add (a_mul rfl (show (24 : Int32).toInt = 24 by decide) (by omega) (by omega)) rfl (by omega) (by omega)) (by omega) (by omega), ?_⟩
        intro x4 ex4
        have f_11 : 0 ≤ (gF z 27 ((b1 * (24 : Int32)) + v1).toNatClampNeg).toInt ∧ (gF z 27 ((b1 * (24 : Int32)) + v1).toNatClampNeg).toInt ≤ 23 := ht.2 27 _
        have ix4 : x4.toInt = (gF z 27 ((b1 * (24 : Int32)) + v1).toNatClampNeg).toInt := by rw [ex4]
        refine ⟨fun c5 => ?_, fun c5 => ?_⟩
        · skip
          have i_12 := i_eq rfl (show (0 : Int32).toInt = 0 by decide) c5
          intro x6 ex6
          have ix6 : x6.toInt = (v1.toInt + (1)) := by rw [ex6]; exact (a_add rfl (show (1 : Int32).toInt = 1 by decide) (by omega) (by omega))
          exact ih_5 x6 (by omega) (by omega) (by omega)
        · skip
          have i_13 := i_ne rfl (show (0 : Int32).toInt = 0 by decide) c5
          refine ⟨vin (a_add (a_mul rfl (show (24 : Int32).toInt = 24 by decide) (by omega) (by omega)) rfl (by omega) (by omega)) (by omega) (by omega), ?_⟩
          exact hk (gG z 28 ((b1 * ((24 : Int32))) + x4).toNatClampNeg) trivial
  have g_14 : (0 : Int32).toInt = 0 := by decide
  exact L_2 ((24 - (0 : Int32).toInt).toNat + 1) ((0 : Int32)) (by omega) (by omega) (by omega)

set_option maxHeartbeats 2000000 in
theorem s_X6_hasPartners (b1 : Int32) (b2 : Int32) (z : St) (P : Int32 → Prop) (ht : TX z) (h0 : 0 ≤ b1.toInt ∧ b1.toInt ≤ 4) (h1 : 0 ≤ b2.toInt ∧ b2.toInt ≤ 23) (hk : ∀ r : Int32, (r = 1 ∧ (True)) ∨ (r = 0 ∧ (True)) → P r) : wp_X6_hasPartners b1 b2 z P := by
  unfold wp_X6_hasPartners
  intro K2 hK_1
  have L_2 : ∀ (n : Nat) (v1 : Int32), (0 ≤ v1.toInt) → (v1.toInt ≤ 5) → (5 - v1.toInt).toNat < n → K2 v1 := by
    intro n
    induction n with
    | zero => intro v1 w_3 w_4 m_6; omega
    | succ n ih_5 =>
      intro v1 w_3 w_4 m_6
      refine hK_1 v1 ?_
      refine ⟨fun c3 => ?_, fun c3 => ?_⟩
      · skip
        have f_7 : 0 ≤ (gI z 2213).toInt ∧ (gI z 2213).toInt ≤ 5 := ht.1 2213
        have i_8 := i_le rfl rfl c3
        have g_9 : (1 : Int32).toInt = 1 := by decide
        exact hk ((1 : Int32)) (Or.inl ⟨rfl, trivial⟩)
      · skip
        have f_10 : 0 ≤ (gI z 2213).toInt ∧ (gI z 2213).toInt ≤ 5 := ht.1 2213
        have i_11 := i_nle rfl rfl c3
        intro K4 hK_12
        refine ⟨fun c6 => ?_, fun c6 => ?_⟩
        · skip
          have i_13 := i_eq rfl rfl c6
          refine hK_12  ?_
          intro y_14 ey_14
          have iy_14 : y_14.toInt = (v1.toInt + (1)) := by rw [ey_14]; exact (a_add rfl (show (1 : Int32).toInt = 1 by decide) (by omega) (by omega))
          exact ih_5 y_14 (by omega) (by omega) (by omega)
        · skip
          have i_15 := i_ne rfl rfl c6
          refine ⟨vin (a_add (a_mul (a_add (a_mul rfl (show (24 : Int32).toInt = 24 by decide) (by omega) (by omega)) rfl (by omega) (by omega)) (show (5 : Int32).toInt = 5 by decide) (by omega) (by omega)) rfl (by omega) (by omega)) (by omega) (by omega), ?_⟩
          refine ⟨vin rfl (by omega) (by omega), ?_⟩
          refine ⟨fun c7 => ?_, fun c7 => ?_⟩
          · skip
            have i_16 := i_ne rfl (show (0 : Int32).toInt = 0 by decide) c7
            refine hK_12  ?_
            intro y_17 ey_17
            have iy_17 : y_17.toInt = (v1.toInt + (1)) := by rw [ey_17]; exact (a_add rfl (show (1 : Int32).toInt = 1 by decide) (by omega) (by omega))
            exact ih_5 y_17 (by omega) (by omega) (by omega)
          · skip
            have i_18 := i_eq rfl (show (0 : Int32).toInt = 0 by decide) c7
            have g_19 : (0 : Int32).toInt = 0 := by decide
            exact hk ((0 : Int32)) (Or.inr ⟨rfl, trivial⟩)
  have g_20 : (0 : Int32).toInt = 0 := by decide
  exact L_2 ((5 - (0 : Int32).toInt).toNat + 1) ((0 : Int32)) (by omega) (by omega) (by omega)

set_option maxHeartbeats 2000000 in
theorem s_X6_keepWay (b1 : Int64) (z : St) (P : St → Prop) (ht : TX z)  (hk : ∀ (z2 : St), TX z2 → Same [] [33] z z2 → (True) → P z2) : wp_X6_keepWay b1 z P := by
  unfold wp_X6_keepWay
  refine ⟨fun c1 => ?_, fun c1 => ?_⟩
  · skip
    exact hk z ht (Same.rf (z := z)) trivial
  · skip
    refine ⟨by decide, ?_⟩
    intro z2 ez2
    have tz2 : TX z2 := by rw [ez2]; exact Ty_wRf ht (fun i => by unfold va_cpy; split; exact ht.2 32 _; exact ht.2 33 _)
    have oz2 : Same [] [33] z z2 := (Same.rf (z := z)).r (by decide) ez2
    intro z3 ez3
    have tz3 : TX z3 := by rw [ez3]; exact Ty_wJ tz2
    have oz3 : Same [] [33] z z3 := oz2.j ez3
    refine ⟨fun c4 => ?_, fun c4 => ?_⟩
    · skip
      have q_1 := ((show (gI z3 2216).toInt = (gI z2 2216).toInt by rw [ez3]; rfl)).trans (show (gI z2 2216).toInt = (gI z 2216).toInt by rw [ez2]; rfl)
      have i_2 := i_eq rfl (show (0 : Int32).toInt = 0 by decide) c4
      intro z5 ez5
      have tz5 : TX z5 := by rw [ez5]; exact Ty_wJ tz3
      have oz5 : Same [] [33] z z5 := oz3.j ez5
      exact hk z5 tz5 oz5 trivial
    · skip
      have q_3 := ((show (gI z3 2216).toInt = (gI z2 2216).toInt by rw [ez3]; rfl)).trans (show (gI z2 2216).toInt = (gI z 2216).toInt by rw [ez2]; rfl)
      have i_4 := i_ne rfl (show (0 : Int32).toInt = 0 by decide) c4
      intro z6 ez6
      have tz6 : TX z6 := by rw [ez6]; exact Ty_wJ tz3
      have oz6 : Same [] [33] z z6 := oz3.j ez6
      exact hk z6 tz6 oz6 trivial

set_option maxHeartbeats 2000000 in
theorem s_X1_costFrom_5 (b1 : Int32) (b2 : Int32) (z : St) (P : Int64 → Prop) (ht : TX z) (h0 : 0 ≤ b1.toInt ∧ b1.toInt ≤ 15) (h1 : 0 ≤ b2.toInt ∧ b2.toInt ≤ 167) (hk : ∀ r : Int64, True → P r) : wp_X1_costFrom_5 b1 b2 z P := by
  unfold wp_X1_costFrom_5
  intro K3 hK_1
  have L_2 : ∀ (n : Nat) (v1 : Int64) (v2 : Int32), (0 ≤ v2.toInt) → (v2.toInt ≤ 4) → (4 - v2.toInt).toNat < n → K3 v1 v2 := by
    intro n
    induction n with
    | zero => intro v1 v2 w_3 w_4 m_6; omega
    | succ n ih_5 =>
      intro v1 v2 w_3 w_4 m_6
      refine hK_1 v1 v2 ?_
      refine ⟨vin rfl (by omega) (by omega), ?_⟩
      refine ⟨fun c4 => ?_, fun c4 => ?_⟩
      · skip
        have f_7 : 0 ≤ (gF z 17 b1.toNatClampNeg).toInt ∧ (gF z 17 b1.toNatClampNeg).toInt ≤ 4 := ht.2 17 _
        have i_8 := i_le rfl rfl c4
        exact hk v1 trivial
      · skip
        have f_9 : 0 ≤ (gF z 17 b1.toNatClampNeg).toInt ∧ (gF z 17 b1.toNatClampNeg).toInt ≤ 4 := ht.2 17 _
        have i_10 := i_nle rfl rfl c4
        refine ⟨fun c5 => ?_, fun c5 => ?_⟩
        · skip
          have i_11 := i_le (show (168 : Int32).toInt = 168 by decide) (a_add rfl rfl (by omega) (by omega)) c5
          exact hk v1 trivial
        · skip
          have i_12 := i_nle (show (168 : Int32).toInt = 168 by decide) (a_add rfl rfl (by omega) (by omega)) c5
          refine ⟨vin (a_add (a_mul rfl (show (4 : Int32).toInt = 4 by decide) (by omega) (by omega)) rfl (by omega) (by omega)) (by omega) (by omega), ?_⟩
          refine ⟨vin (a_add rfl rfl (by omega) (by omega)) (by omega) (by omega), ?_⟩
          intro x6 ex6
          intro x7 ex7
          have ix7 : x7.toInt = (v2.toInt + (1)) := by rw [ex7]; exact (a_add rfl (show (1 : Int32).toInt = 1 by decide) (by omega) (by omega))
          exact ih_5 x6 x7 (by omega) (by omega) (by omega)
  have g_13 : (0 : Int32).toInt = 0 := by decide
  exact L_2 ((4 - (0 : Int32).toInt).toNat + 1) ((0 : Int64)) ((0 : Int32)) (by omega) (by omega) (by omega)

set_option maxHeartbeats 2000000 in
theorem s_X6_addJob (b1 : Int32) (b2 : Int32) (z : St) (P : St → Prop) (ht : TX z) (h0 : 0 ≤ b1.toInt ∧ b1.toInt ≤ 15) (h1 : -1 ≤ b2.toInt ∧ b2.toInt ≤ 167) (hk : ∀ (z2 : St), TX z2 → Same [2213] [23, 24] z z2 → (True) → P z2) : wp_X6_addJob b1 b2 z P := by
  unfold wp_X6_addJob
  refine ⟨fun c1 => ?_, fun c1 => ?_⟩
  · skip
    have f_1 : 0 ≤ (gI z 2213).toInt ∧ (gI z 2213).toInt ≤ 5 := ht.1 2213
    have i_2 := i_le (show (5 : Int32).toInt = 5 by decide) rfl c1
    exact hk z ht (Same.rf (z := z)) trivial
  · skip
    have f_3 : 0 ≤ (gI z 2213).toInt ∧ (gI z 2213).toInt ≤ 5 := ht.1 2213
    have i_4 := i_nle (show (5 : Int32).toInt = 5 by decide) rfl c1
    refine ⟨vin rfl (by omega) (by omega), ?_⟩
    intro z2 ez2
    have tz2 : TX z2 := by rw [ez2]; exact Ty_wR ht (show 0 ≤ b1.toInt ∧ b1.toInt ≤ 15 from by omega)
    have oz2 : Same [2213] [23, 24] z z2 := (Same.rf (z := z)).r (by decide) ez2
    have f_5 : 0 ≤ (gI z2 2213).toInt ∧ (gI z2 2213).toInt ≤ 5 := tz2.1 2213
    have q_6 := (show (gI z2 2213).toInt = (gI z 2213).toInt by rw [ez2]; rfl)
    refine ⟨vin rfl (by omega) (by omega), ?_⟩
    intro z3 ez3
    have tz3 : TX z3 := by rw [ez3]; exact Ty_wR tz2 (show -1 ≤ b2.toInt ∧ b2.toInt ≤ 167 from by omega)
    have oz3 : Same [2213] [23, 24] z z3 := oz2.r (by decide) ez3
    intro z4 ez4
    have f_7 : 0 ≤ (gI z3 2213).toInt ∧ (gI z3 2213).toInt ≤ 5 := tz3.1 2213
    have q_8 := ((show (gI z3 2213).toInt = (gI z2 2213).toInt by rw [ez3]; rfl)).trans (show (gI z2 2213).toInt = (gI z 2213).toInt by rw [ez2]; rfl)
    have tz4 : TX z4 := by rw [ez4]; exact Ty_wI tz3 (show 0 ≤ ((gI z3 2213) + (1 : Int32)).toInt ∧ ((gI z3 2213) + (1 : Int32)).toInt ≤ 5 from by rw [(a_add rfl (show (1 : Int32).toInt = 1 by decide) (by omega) (by omega))]; omega)
    have oz4 : Same [2213] [23, 24] z z4 := oz3.i (by decide) ez4
    exact hk z4 tz4 oz4 trivial

set_option maxHeartbeats 2000000 in
theorem s_X2_cheapestHour (b1 : Int32) (z : St) (P : Int32 → Prop) (ht : TX z) (h0 : 0 ≤ b1.toInt ∧ b1.toInt ≤ 15) (hk : ∀ r : Int32, r.toInt = -1 ∨ (0 ≤ r.toInt ∧ r.toInt ≤ 167 ∧ r.toInt + (gF z 17 b1.toNatClampNeg).toInt ≤ 168) → P r) : wp_X2_cheapestHour b1 z P := by
  unfold wp_X2_cheapestHour
  refine ⟨vin rfl (by omega) (by omega), ?_⟩
  intro K4 hK_1
  have L_2 : ∀ (n : Nat) (v1 : Int32) (v2 : Int64) (v3 : Int32), (0 ≤ v3.toInt) → (v3.toInt ≤ 168) → (v1.toInt = -1 ∨ (0 ≤ v1.toInt ∧ v1.toInt ≤ 167 ∧ v1.toInt + (gF z 17 b1.toNatClampNeg).toInt ≤ 168)) → (168 - v3.toInt).toNat < n → K4 v1 v2 v3 := by
    intro n
    induction n with
    | zero => intro v1 v2 v3 w_3 w_4 w_5 m_7; omega
    | succ n ih_6 =>
      intro v1 v2 v3 w_3 w_4 w_5 m_7
      have f_8 : 0 ≤ (gF z 17 b1.toNatClampNeg).toInt ∧ (gF z 17 b1.toNatClampNeg).toInt ≤ 4 := ht.2 17 _
      refine hK_1 v1 v2 v3 ?_
      refine ⟨vin rfl (by omega) (by omega), ?_⟩
      refine ⟨fun c5 => ?_, fun c5 => ?_⟩
      · skip
        have f_9 : 0 ≤ (gF z 16 b1.toNatClampNeg).toInt ∧ (gF z 16 b1.toNatClampNeg).toInt ≤ 167 := ht.2 16 _
        have i_10 := i_lt rfl rfl c5
        exact hk v1 (by omega)
      · skip
        have f_11 : 0 ≤ (gF z 16 b1.toNatClampNeg).toInt ∧ (gF z 16 b1.toNatClampNeg).toInt ≤ 167 := ht.2 16 _
        have i_12 := i_nlt rfl rfl c5
        refine s_X2_mayBegin b1 v3 z _ ht (by omega) (fun r7 hp_13 => ?_)
        rcases hp_13 with ⟨er7, hp_13⟩ | ⟨er7, hp_13⟩
        · subst er7
          have f_14 : 0 ≤ (gF z 15 b1.toNatClampNeg).toInt ∧ (gF z 15 b1.toNatClampNeg).toInt ≤ 167 := ht.2 15 _
          intro K10 hK_15
          refine ⟨fun hc => absurd hc (by decide), fun _ => ?_⟩
          refine s_X1_costFrom_5 b1 v3 z _ ht (by omega) (by omega) (fun r14 hp_16 => ?_)
          refine ⟨fun c15 => ?_, fun c15 => ?_⟩
          · skip
            refine hK_15 v1 v2 ?_
            intro y_17 ey_17
            have iy_17 : y_17.toInt = (v3.toInt + (1)) := by rw [ey_17]; exact (a_add rfl (show (1 : Int32).toInt = 1 by decide) (by omega) (by omega))
            exact ih_6 v1 v2 y_17 (by omega) (by omega) (by first | omega | assumption | decide) (by omega)
          · skip
            refine hK_15 v3 r14 ?_
            intro y_18 ey_18
            have iy_18 : y_18.toInt = (v3.toInt + (1)) := by rw [ey_18]; exact (a_add rfl (show (1 : Int32).toInt = 1 by decide) (by omega) (by omega))
            exact ih_6 v3 r14 y_18 (by omega) (by omega) (by first | omega | assumption | decide) (by omega)
        · subst er7
          intro K10 hK_19
          refine ⟨fun _ => ?_, fun hc => absurd (show ((0 : Int32)) = ((0 : Int32)) by decide) hc⟩
          refine hK_19 v1 v2 ?_
          intro y_20 ey_20
          have iy_20 : y_20.toInt = (v3.toInt + (1)) := by rw [ey_20]; exact (a_add rfl (show (1 : Int32).toInt = 1 by decide) (by omega) (by omega))
          exact ih_6 v1 v2 y_20 (by omega) (by omega) (by first | omega | assumption | decide) (by omega)
  intro x16 ex16
  have f_21 : 0 ≤ (gF z 15 b1.toNatClampNeg).toInt ∧ (gF z 15 b1.toNatClampNeg).toInt ≤ 167 := ht.2 15 _
  have ix16 : x16.toInt = (gF z 15 b1.toNatClampNeg).toInt := by rw [ex16]
  have g_22 : (-1 : Int32).toInt = -1 := by decide
  have f_23 : 0 ≤ (gF z 17 b1.toNatClampNeg).toInt ∧ (gF z 17 b1.toNatClampNeg).toInt ≤ 4 := ht.2 17 _
  exact L_2 ((168 - x16.toInt).toNat + 1) ((-1 : Int32)) ((1000000000000000000 : Int64)) x16 (by omega) (by omega) (by first | omega | assumption | decide) (by omega)

set_option maxHeartbeats 2000000 in
theorem s_X2_planOneByOne  (z : St) (P : Int32 → St → Prop) (ht : TX z) (hrx : RX z)  (hk : ∀ (r : Int32) (z2 : St), TX z2 → Same [] [10, 12, 19, 20] z z2 → RX z2 → (True) → P r z2) : wp_X2_planOneByOne  z P := by
  unfold wp_X2_planOneByOne
  intro K2 hK_1
  have L_2 : ∀ (n : Nat) (v1 : Int32) (z3 : St), TX z3 → Same [] [10, 12, 19, 20] z z3 → RX z3 → (0 ≤ v1.toInt) → (v1.toInt ≤ 16) → (16 - v1.toInt).toNat < n → K2 v1 z3 := by
    intro n
    induction n with
    | zero => intro v1 z3 tz3 ocz3 xz3 w_3 w_4 m_6; omega
    | succ n ih_5 =>
      intro v1 z3 tz3 ocz3 xz3 w_3 w_4 m_6
      refine hK_1 v1 z3 ?_
      refine ⟨fun c4 => ?_, fun c4 => ?_⟩
      · skip
        have f_7 : 0 ≤ (gI z3 1308).toInt ∧ (gI z3 1308).toInt ≤ 16 := tz3.1 1308
        have q_8 := (ocz3.fi 1308 (by decide))
        have f_9 : 0 ≤ (gI z 1308).toInt ∧ (gI z 1308).toInt ≤ 16 := ht.1 1308
        have i_10 := i_le rfl rfl c4
        intro K6 hK_11
        have L_12 : ∀ (n : Nat) (v5 : Int32) (z7 : St), TX z7 → Same [] [10, 12, 19, 20] z z7 → RX z7 → (0 ≤ v5.toInt) → (v5.toInt ≤ 16) → (16 - v5.toInt).toNat < n → K6 v5 z7 := by
          intro n
          induction n with
          | zero => intro v5 z7 tz7 ocz7 xz7 w_13 w_14 m_16; omega
          | succ n ih_15 =>
            intro v5 z7 tz7 ocz7 xz7 w_13 w_14 m_16
            refine hK_11 v5 z7 ?_
            refine ⟨fun c8 => ?_, fun c8 => ?_⟩
            · skip
              have f_17 : 0 ≤ (gI z7 1308).toInt ∧ (gI z7 1308).toInt ≤ 16 := tz7.1 1308
              have q_18 := (ocz7.fi 1308 (by decide))
              have i_19 := i_le rfl rfl c8
              have g_20 : (0 : Int32).toInt = 0 := by decide
              refine s_X1_inState ((0 : Int32)) z7 _ tz7  (fun r10 hp_21 => ?_)
              exact hk r10 z7 tz7 ocz7 xz7 trivial
            · skip
              have f_22 : 0 ≤ (gI z7 1308).toInt ∧ (gI z7 1308).toInt ≤ 16 := tz7.1 1308
              have q_23 := (ocz7.fi 1308 (by decide))
              have i_24 := i_nle rfl rfl c8
              refine ⟨vin rfl (by omega) (by omega), ?_⟩
              intro K12 hK_25
              refine ⟨fun c19 => ?_, fun c19 => ?_⟩
              · skip
                have f_26 : 0 ≤ (gF z7 19 v5.toNatClampNeg).toInt ∧ (gF z7 19 v5.toNatClampNeg).toInt ≤ 2 := tz7.2 19 _
                have u_27 := xz7.1 v5.toNatClampNeg
                have u_28 := xz7.2.2.2 v5.toNatClampNeg
                have cl_29 := clampI (x := v5) (n := 16) (vin rfl (by omega) (by omega))
                have f_30 : 0 ≤ (gF z7 17 v5.toNatClampNeg).toInt ∧ (gF z7 17 v5.toNatClampNeg).toInt ≤ 4 := tz7.2 17 _
                have q_31 := (ocz7.ff 17 v5.toNatClampNeg (by decide))
                have f_32 : 0 ≤ (gF z 17 v5.toNatClampNeg).toInt ∧ (gF z 17 v5.toNatClampNeg).toInt ≤ 4 := ht.2 17 _
                have u_33 := hrx.1 v5.toNatClampNeg
                have u_34 := hrx.2.2.2 v5.toNatClampNeg
                have f_35 : 0 ≤ (gF z 19 v5.toNatClampNeg).toInt ∧ (gF z 19 v5.toNatClampNeg).toInt ≤ 2 := ht.2 19 _
                have f_36 : -1 ≤ (gF z 20 v5.toNatClampNeg).toInt ∧ (gF z 20 v5.toNatClampNeg).toInt ≤ 167 := ht.2 20 _
                have f_37 : -1 ≤ (gF z7 20 v5.toNatClampNeg).toInt ∧ (gF z7 20 v5.toNatClampNeg).toInt ≤ 167 := tz7.2 20 _
                have i_38 := i_ne rfl (show (0 : Int32).toInt = 0 by decide) c19
                refine hK_25 ((-1 : Int32)) ?_
                intro K_39 hK_44
                refine ⟨fun _ => ?_, fun hc => absurd (show ((-1 : Int32)) = ((-1 : Int32)) by decide) hc⟩
                refine hK_44 z7 ?_
                intro y_45 ey_45
                have iy_45 : y_45.toInt = (v5.toInt + (1)) := by rw [ey_45]; exact (a_add rfl (show (1 : Int32).toInt = 1 by decide) (by omega) (by omega))
                exact ih_15 y_45 z7 tz7 ocz7 xz7 (by omega) (by omega) (by omega)
              · skip
                have f_46 : 0 ≤ (gF z7 19 v5.toNatClampNeg).toInt ∧ (gF z7 19 v5.toNatClampNeg).toInt ≤ 2 := tz7.2 19 _
                have u_47 := xz7.1 v5.toNatClampNeg
                have u_48 := xz7.2.2.2 v5.toNatClampNeg
                have cl_49 := clampI (x := v5) (n := 16) (vin rfl (by omega) (by omega))
                have f_50 : 0 ≤ (gF z7 17 v5.toNatClampNeg).toInt ∧ (gF z7 17 v5.toNatClampNeg).toInt ≤ 4 := tz7.2 17 _
                have q_51 := (ocz7.ff 17 v5.toNatClampNeg (by decide))
                have f_52 : 0 ≤ (gF z 17 v5.toNatClampNeg).toInt ∧ (gF z 17 v5.toNatClampNeg).toInt ≤ 4 := ht.2 17 _
                have u_53 := hrx.1 v5.toNatClampNeg
                have u_54 := hrx.2.2.2 v5.toNatClampNeg
                have f_55 : 0 ≤ (gF z 19 v5.toNatClampNeg).toInt ∧ (gF z 19 v5.toNatClampNeg).toInt ≤ 2 := ht.2 19 _
                have f_56 : -1 ≤ (gF z 20 v5.toNatClampNeg).toInt ∧ (gF z 20 v5.toNatClampNeg).toInt ≤ 167 := ht.2 20 _
                have f_57 : -1 ≤ (gF z7 20 v5.toNatClampNeg).toInt ∧ (gF z7 20 v5.toNatClampNeg).toInt ≤ 167 := tz7.2 20 _
                have i_58 := i_eq rfl (show (0 : Int32).toInt = 0 by decide) c19
                refine s_X2_cheapestHour v5 z7 _ tz7 (by omega) (fun r21 hp_59 => ?_)
                refine hK_25 r21 ?_
                intro K_60 hK_65
                refine ⟨fun c_63 => ?_, fun c_63 => ?_⟩
                · skip
                  have i_66 := i_eq rfl (show (-1 : Int32).toInt = -1 by decide) c_63
                  refine hK_65 z7 ?_
                  intro y_67 ey_67
                  have iy_67 : y_67.toInt = (v5.toInt + (1)) := by rw [ey_67]; exact (a_add rfl (show (1 : Int32).toInt = 1 by decide) (by omega) (by omega))
                  exact ih_15 y_67 z7 tz7 ocz7 xz7 (by omega) (by omega) (by omega)
                · skip
                  have i_68 := i_ne rfl (show (-1 : Int32).toInt = -1 by decide) c_63
                  refine s_X1_plan v5 r21 z7 _ tz7 xz7 (by omega) (by omega) (by omega) (by omega) (fun z_64 tz_64 o_70 xz_64 hp_69 => ?_)
                  have oz_64 : Same [] [10, 12, 19, 20] z z_64 := ocz7.tr o_70 (by decide) (by decide)
                  refine hK_65 z_64 ?_
                  intro y_71 ey_71
                  have iy_71 : y_71.toInt = (v5.toInt + (1)) := by rw [ey_71]; exact (a_add rfl (show (1 : Int32).toInt = 1 by decide) (by omega) (by omega))
                  exact ih_15 y_71 z_64 tz_64 oz_64 xz_64 (by omega) (by omega) (by omega)
        have g_72 : (0 : Int32).toInt = 0 := by decide
        exact L_12 ((16 - (0 : Int32).toInt).toNat + 1) ((0 : Int32)) z3 tz3 ocz3 xz3 (by omega) (by omega) (by omega)
      · skip
        have f_73 : 0 ≤ (gI z3 1308).toInt ∧ (gI z3 1308).toInt ≤ 16 := tz3.1 1308
        have q_74 := (ocz3.fi 1308 (by decide))
        have f_75 : 0 ≤ (gI z 1308).toInt ∧ (gI z 1308).toInt ≤ 16 := ht.1 1308
        have i_76 := i_nle rfl rfl c4
        refine s_X1_reopen v1 z3 _ tz3 xz3 (by omega) (fun z22 tz22 o_78 xz22 hp_77 => ?_)
        have oz22 : Same [] [10, 12, 19, 20] z z22 := ocz3.tr o_78 (by decide) (by decide)
        intro x24 ex24
        have ix24 : x24.toInt = (v1.toInt + (1)) := by rw [ex24]; exact (a_add rfl (show (1 : Int32).toInt = 1 by decide) (by omega) (by omega))
        exact ih_5 x24 z22 tz22 oz22 xz22 (by omega) (by omega) (by omega)
  have g_79 : (0 : Int32).toInt = 0 := by decide
  exact L_2 ((16 - (0 : Int32).toInt).toNat + 1) ((0 : Int32)) z ht (Same.rf (z := z)) hrx (by omega) (by omega) (by omega)

set_option maxHeartbeats 2000000 in
theorem s_X8_each  (z : St) (P : Int32 → St → Prop) (ht : TX z) (hrx : RX z)  (hk : ∀ (r : Int32) (z2 : St), TX z2 → Same [] [10, 12, 19, 20] z z2 → RX z2 → (True) → P r z2) : wp_X8_each  z P := by
  unfold wp_X8_each
  refine s_X2_planOneByOne  z _ ht hrx  (fun r2 z1 tz1 o_2 xz1 hp_1 => ?_)
  have oz1 : Same [] [10, 12, 19, 20] z z1 := (Same.rf (z := z)).tr o_2 (by decide) (by decide)
  exact hk r2 z1 tz1 oz1 xz1 trivial

set_option maxHeartbeats 2000000 in
theorem s_X4_append (b1 : Int32) (z : St) (P : St → Prop) (ht : TX z)  (hk : ∀ (z2 : St), TX z2 → Same [3701] [38] z z2 → (((gI z 3701).toInt ≤ 296 → (gI z2 3701).toInt = (gI z 3701).toInt + 4)) → P z2) : wp_X4_append b1 z P := by
  unfold wp_X4_append
  intro K2 hK_1
  have L_2 : ∀ (n : Nat) (v1 : Int32) (z3 : St), TX z3 → Same [3701] [38] z z3 → (-8 ≤ v1.toInt) → (v1.toInt ≤ 24) → ((gI z 3701).toInt ≤ 296 → 8 * ((gI z3 3701).toInt - (gI z 3701).toInt) = 24 - v1.toInt) → (v1.toInt + 8).toNat < n → K2 v1 z3 := by
    intro n
    induction n with
    | zero => intro v1 z3 tz3 ocz3 w_3 w_4 w_5 m_7; omega
    | succ n ih_6 =>
      intro v1 z3 tz3 ocz3 w_3 w_4 w_5 m_7
      have f_8 : 0 ≤ (gI z 3701).toInt ∧ (gI z 3701).toInt ≤ 300 := ht.1 3701
      have f_9 : 0 ≤ (gI z3 3701).toInt ∧ (gI z3 3701).toInt ≤ 300 := tz3.1 3701
      refine hK_1 v1 z3 ?_
      refine ⟨fun c4 => ?_, fun c4 => ?_⟩
      · skip
        have i_10 := i_lt rfl (show (0 : Int32).toInt = 0 by decide) c4
        exact hk z3 tz3 ocz3 (by omega)
      · skip
        have i_11 := i_nlt rfl (show (0 : Int32).toInt = 0 by decide) c4
        refine ⟨fun c5 => ?_, fun c5 => ?_⟩
        · skip
          have i_12 := i_le (show (300 : Int32).toInt = 300 by decide) rfl c5
          exact hk z3 tz3 ocz3 (by omega)
        · skip
          have i_13 := i_nle (show (300 : Int32).toInt = 300 by decide) rfl c5
          refine ⟨vin rfl (by omega) (by omega), ?_⟩
          intro z6 ez6
          have tz6 : TX z6 := by rw [ez6]; exact Ty_wR tz3 trivial
          have oz6 : Same [3701] [38] z z6 := ocz3.r (by decide) ez6
          intro z7 ez7
          have f_14 : 0 ≤ (gI z6 3701).toInt ∧ (gI z6 3701).toInt ≤ 300 := tz6.1 3701
          have q_15 := (show (gI z6 3701).toInt = (gI z3 3701).toInt by rw [ez6]; rfl)
          have tz7 : TX z7 := by rw [ez7]; exact Ty_wI tz6 (show 0 ≤ ((gI z6 3701) + (1 : Int32)).toInt ∧ ((gI z6 3701) + (1 : Int32)).toInt ≤ 300 from by rw [(a_add rfl (show (1 : Int32).toInt = 1 by decide) (by omega) (by omega))]; omega)
          have oz7 : Same [3701] [38] z z7 := oz6.i (by decide) ez7
          intro x8 ex8
          have ix8 : x8.toInt = (v1.toInt + (-8)) := by rw [ex8]; exact (a_add rfl (show (-8 : Int32).toInt = -8 by decide) (by omega) (by omega))
          have f_16 : 0 ≤ (gI z7 3701).toInt ∧ (gI z7 3701).toInt ≤ 300 := tz7.1 3701
          have q_17 := (show (gI z7 3701).toInt = ((gI z6 3701) + (1 : Int32)).toInt by rw [ez7]; rfl)
          have q_18 : ((gI z6 3701) + (1 : Int32)).toInt = ((gI z6 3701).toInt + (1)) := (a_add rfl (show (1 : Int32).toInt = 1 by decide) (by omega) (by omega))
          exact ih_6 x8 z7 tz7 oz7 (by omega) (by omega) (by omega) (by omega)
  have g_19 : (24 : Int32).toInt = 24 := by decide
  have f_20 : 0 ≤ (gI z 3701).toInt ∧ (gI z 3701).toInt ≤ 300 := ht.1 3701
  exact L_2 (((24 : Int32).toInt + 8).toNat + 1) ((24 : Int32)) z ht (Same.rf (z := z)) (by omega) (by omega) (by omega) (by omega)

set_option maxHeartbeats 2000000 in
theorem s_X8_feed (b1 : Int32) (b2 : Int32) (b3 : Int32) (b4 : Int32) (b5 : Int32) (z : St) (P : Int32 → St → Prop) (ht : TX z)  (hk : ∀ (r : Int32) (z2 : St), TX z2 → Same [3701] [38] z z2 → ((280 < (gI z 3701).toInt ∧ r.toInt = -1 ∧ (gI z2 3701).toInt = (gI z 3701).toInt) ∨ ((gI z 3701).toInt ≤ 280 ∧ r.toInt = (gI z 3701).toInt + 20 ∧ (gI z2 3701).toInt = (gI z 3701).toInt + 20)) → P r z2) : wp_X8_feed b1 b2 b3 b4 b5 z P := by
  unfold wp_X8_feed
  refine ⟨fun c1 => ?_, fun c1 => ?_⟩
  · skip
    have f_1 : 0 ≤ (gI z 3701).toInt ∧ (gI z 3701).toInt ≤ 300 := ht.1 3701
    have i_2 := i_le rfl (show (280 : Int32).toInt = 280 by decide) c1
    refine s_X4_append b1 z _ ht  (fun z2 tz2 o_4 hp_3 => ?_)
    have oz2 : Same [3701] [38] z z2 := (Same.rf (z := z)).tr o_4 (by decide) (by decide)
    have f_5 : 0 ≤ (gI z2 3701).toInt ∧ (gI z2 3701).toInt ≤ 300 := tz2.1 3701
    refine s_X4_append b2 z2 _ tz2  (fun z4 tz4 o_7 hp_6 => ?_)
    have oz4 : Same [3701] [38] z z4 := oz2.tr o_7 (by decide) (by decide)
    have f_8 : 0 ≤ (gI z4 3701).toInt ∧ (gI z4 3701).toInt ≤ 300 := tz4.1 3701
    refine s_X4_append b3 z4 _ tz4  (fun z6 tz6 o_10 hp_9 => ?_)
    have oz6 : Same [3701] [38] z z6 := oz4.tr o_10 (by decide) (by decide)
    have f_11 : 0 ≤ (gI z6 3701).toInt ∧ (gI z6 3701).toInt ≤ 300 := tz6.1 3701
    refine s_X4_append b4 z6 _ tz6  (fun z8 tz8 o_13 hp_12 => ?_)
    have oz8 : Same [3701] [38] z z8 := oz6.tr o_13 (by decide) (by decide)
    have f_14 : 0 ≤ (gI z8 3701).toInt ∧ (gI z8 3701).toInt ≤ 300 := tz8.1 3701
    refine s_X4_append b5 z8 _ tz8  (fun z10 tz10 o_16 hp_15 => ?_)
    have oz10 : Same [3701] [38] z z10 := oz8.tr o_16 (by decide) (by decide)
    have f_17 : 0 ≤ (gI z10 3701).toInt ∧ (gI z10 3701).toInt ≤ 300 := tz10.1 3701
    exact hk (gI z10 3701) z10 tz10 oz10 (by omega)
  · skip
    have f_18 : 0 ≤ (gI z 3701).toInt ∧ (gI z 3701).toInt ≤ 300 := ht.1 3701
    have i_19 := i_nle rfl (show (280 : Int32).toInt = 280 by decide) c1
    have g_20 : (-1 : Int32).toInt = -1 := by decide
    exact hk ((-1 : Int32)) z ht (Same.rf (z := z)) (by omega)

set_option maxHeartbeats 2000000 in
theorem s_X8_end (b1 : Int32) (z : St) (P : Int32 → St → Prop) (ht : TX z)  (hk : ∀ (r : Int32) (z2 : St), TX z2 → Same [3701] [] z z2 → (((b1.toInt < 0 ∨ (gI z 3701).toInt < b1.toInt) ∧ r.toInt = -1 ∧ (gI z2 3701).toInt = (gI z 3701).toInt) ∨ (0 ≤ b1.toInt ∧ b1.toInt ≤ (gI z 3701).toInt ∧ r.toInt = b1.toInt ∧ (gI z2 3701).toInt = b1.toInt)) → P r z2) : wp_X8_end b1 z P := by
  unfold wp_X8_end
  refine ⟨fun c1 => ?_, fun c1 => ?_⟩
  · skip
    have i_1 := i_lt rfl (show (0 : Int32).toInt = 0 by decide) c1
    have g_2 : (-1 : Int32).toInt = -1 := by decide
    have f_3 : 0 ≤ (gI z 3701).toInt ∧ (gI z 3701).toInt ≤ 300 := ht.1 3701
    exact hk ((-1 : Int32)) z ht (Same.rf (z := z)) (by omega)
  · skip
    have i_4 := i_nlt rfl (show (0 : Int32).toInt = 0 by decide) c1
    refine ⟨fun c2 => ?_, fun c2 => ?_⟩
    · skip
      have f_5 : 0 ≤ (gI z 3701).toInt ∧ (gI z 3701).toInt ≤ 300 := ht.1 3701
      have i_6 := i_le rfl rfl c2
      intro z3 ez3
      have tz3 : TX z3 := by rw [ez3]; exact Ty_wI ht (show 0 ≤ b1.toInt ∧ b1.toInt ≤ 300 from by omega)
      have oz3 : Same [3701] [] z z3 := (Same.rf (z := z)).i (by decide) ez3
      have f_7 : 0 ≤ (gI z3 3701).toInt ∧ (gI z3 3701).toInt ≤ 300 := tz3.1 3701
      have q_8 := (show (gI z3 3701).toInt = b1.toInt by rw [ez3]; rfl)
      exact hk b1 z3 tz3 oz3 (by omega)
    · skip
      have f_9 : 0 ≤ (gI z 3701).toInt ∧ (gI z 3701).toInt ≤ 300 := ht.1 3701
      have i_10 := i_nle rfl rfl c2
      have g_11 : (-1 : Int32).toInt = -1 := by decide
      exact hk ((-1 : Int32)) z ht (Same.rf (z := z)) (by omega)

set_option maxHeartbeats 2000000 in
theorem s_X8_fault  (z : St) (P : Int32 → Prop) (ht : TX z)  (hk : ∀ r : Int32, True → P r) : wp_X8_fault  z P := by
  unfold wp_X8_fault
  exact hk (gI z 7) trivial

set_option maxHeartbeats 2000000 in
theorem s_X1_beginBefore (b1 : Int32) (z : St) (P : St → Prop) (ht : TX z) (hrx : RX z)  (hk : ∀ (z2 : St), TX z2 → Same [] [19] z z2 → RX z2 → (True) → P z2) : wp_X1_beginBefore b1 z P := by
  unfold wp_X1_beginBefore
  intro K2 hK_1
  have L_2 : ∀ (n : Nat) (v1 : Int32) (z3 : St), TX z3 → Same [] [19] z z3 → RX z3 → (0 ≤ v1.toInt) → (v1.toInt ≤ 16) → (16 - v1.toInt).toNat < n → K2 v1 z3 := by
    intro n
    induction n with
    | zero => intro v1 z3 tz3 ocz3 xz3 w_3 w_4 m_6; omega
    | succ n ih_5 =>
      intro v1 z3 tz3 ocz3 xz3 w_3 w_4 m_6
      refine hK_1 v1 z3 ?_
      refine ⟨fun c4 => ?_, fun c4 => ?_⟩
      · skip
        have f_7 : 0 ≤ (gI z3 1308).toInt ∧ (gI z3 1308).toInt ≤ 16 := tz3.1 1308
        have q_8 := (ocz3.fi 1308 (by decide))
        have f_9 : 0 ≤ (gI z 1308).toInt ∧ (gI z 1308).toInt ≤ 16 := ht.1 1308
        have i_10 := i_le rfl rfl c4
        exact hk z3 tz3 ocz3 xz3 trivial
      · skip
        have f_11 : 0 ≤ (gI z3 1308).toInt ∧ (gI z3 1308).toInt ≤ 16 := tz3.1 1308
        have q_12 := (ocz3.fi 1308 (by decide))
        have f_13 : 0 ≤ (gI z 1308).toInt ∧ (gI z 1308).toInt ≤ 16 := ht.1 1308
        have i_14 := i_nle rfl rfl c4
        refine ⟨vin rfl (by omega) (by omega), ?_⟩
        intro K5 hK_15
        refine ⟨fun c8 => ?_, fun c8 => ?_⟩
        · skip
          have f_16 : 0 ≤ (gF z3 19 v1.toNatClampNeg).toInt ∧ (gF z3 19 v1.toNatClampNeg).toInt ≤ 2 := tz3.2 19 _
          have u_17 := xz3.1 v1.toNatClampNeg
          have u_18 := xz3.2.2.2 v1.toNatClampNeg
          have cl_19 := clampI (x := v1) (n := 16) (vin rfl (by omega) (by omega))
          have f_20 : 0 ≤ (gF z3 17 v1.toNatClampNeg).toInt ∧ (gF z3 17 v1.toNatClampNeg).toInt ≤ 4 := tz3.2 17 _
          have q_21 := (ocz3.ff 17 v1.toNatClampNeg (by decide))
          have f_22 : 0 ≤ (gF z 17 v1.toNatClampNeg).toInt ∧ (gF z 17 v1.toNatClampNeg).toInt ≤ 4 := ht.2 17 _
          have u_23 := hrx.1 v1.toNatClampNeg
          have u_24 := hrx.2.2.2 v1.toNatClampNeg
          have f_25 : 0 ≤ (gF z 19 v1.toNatClampNeg).toInt ∧ (gF z 19 v1.toNatClampNeg).toInt ≤ 2 := ht.2 19 _
          have f_26 : -1 ≤ (gF z 20 v1.toNatClampNeg).toInt ∧ (gF z 20 v1.toNatClampNeg).toInt ≤ 167 := ht.2 20 _
          have f_27 : -1 ≤ (gF z3 20 v1.toNatClampNeg).toInt ∧ (gF z3 20 v1.toNatClampNeg).toInt ≤ 167 := tz3.2 20 _
          have q_28 := (ocz3.ff 20 v1.toNatClampNeg (by decide))
          have i_29 := i_ne rfl (show (1 : Int32).toInt = 1 by decide) c8
          refine hK_15 z3 ?_
          intro y_30 ey_30
          have iy_30 : y_30.toInt = (v1.toInt + (1)) := by rw [ey_30]; exact (a_add rfl (show (1 : Int32).toInt = 1 by decide) (by omega) (by omega))
          exact ih_5 y_30 z3 tz3 ocz3 xz3 (by omega) (by omega) (by omega)
        · skip
          have f_31 : 0 ≤ (gF z3 19 v1.toNatClampNeg).toInt ∧ (gF z3 19 v1.toNatClampNeg).toInt ≤ 2 := tz3.2 19 _
          have u_32 := xz3.1 v1.toNatClampNeg
          have u_33 := xz3.2.2.2 v1.toNatClampNeg
          have cl_34 := clampI (x := v1) (n := 16) (vin rfl (by omega) (by omega))
          have f_35 : 0 ≤ (gF z3 17 v1.toNatClampNeg).toInt ∧ (gF z3 17 v1.toNatClampNeg).toInt ≤ 4 := tz3.2 17 _
          have q_36 := (ocz3.ff 17 v1.toNatClampNeg (by decide))
          have f_37 : 0 ≤ (gF z 17 v1.toNatClampNeg).toInt ∧ (gF z 17 v1.toNatClampNeg).toInt ≤ 4 := ht.2 17 _
          have u_38 := hrx.1 v1.toNatClampNeg
          have u_39 := hrx.2.2.2 v1.toNatClampNeg
          have f_40 : 0 ≤ (gF z 19 v1.toNatClampNeg).toInt ∧ (gF z 19 v1.toNatClampNeg).toInt ≤ 2 := ht.2 19 _
          have f_41 : -1 ≤ (gF z 20 v1.toNatClampNeg).toInt ∧ (gF z 20 v1.toNatClampNeg).toInt ≤ 167 := ht.2 20 _
          have f_42 : -1 ≤ (gF z3 20 v1.toNatClampNeg).toInt ∧ (gF z3 20 v1.toNatClampNeg).toInt ≤ 167 := tz3.2 20 _
          have q_43 := (ocz3.ff 20 v1.toNatClampNeg (by decide))
          have i_44 := i_eq rfl (show (1 : Int32).toInt = 1 by decide) c8
          refine ⟨vin rfl (by omega) (by omega), ?_⟩
          refine ⟨fun c9 => ?_, fun c9 => ?_⟩
          · skip
            have i_45 := i_le rfl rfl c9
            refine hK_15 z3 ?_
            intro y_46 ey_46
            have iy_46 : y_46.toInt = (v1.toInt + (1)) := by rw [ey_46]; exact (a_add rfl (show (1 : Int32).toInt = 1 by decide) (by omega) (by omega))
            exact ih_5 y_46 z3 tz3 ocz3 xz3 (by omega) (by omega) (by omega)
          · skip
            have i_47 := i_nle rfl rfl c9
            refine ⟨vin rfl (by omega) (by omega), ?_⟩
            intro z10 ez10
            have tz10 : TX z10 := by rw [ez10]; exact Ty_wR tz3 (show 0 ≤ (2 : Int32).toInt ∧ (2 : Int32).toInt ≤ 2 from by rw [(show (2 : Int32).toInt = 2 by decide)]; omega)
            have oz10 : Same [] [19] z z10 := ocz3.r (by decide) ez10
            have xz10 : RX z10 := by rw [ez10]; exact RX_done xz3 (by omega)
            refine hK_15 z10 ?_
            intro y_48 ey_48
            have iy_48 : y_48.toInt = (v1.toInt + (1)) := by rw [ey_48]; exact (a_add rfl (show (1 : Int32).toInt = 1 by decide) (by omega) (by omega))
            exact ih_5 y_48 z10 tz10 oz10 xz10 (by omega) (by omega) (by omega)
  have g_49 : (0 : Int32).toInt = 0 := by decide
  exact L_2 ((16 - (0 : Int32).toInt).toNat + 1) ((0 : Int32)) z ht (Same.rf (z := z)) hrx (by omega) (by omega) (by omega)

set_option maxHeartbeats 2000000 in
theorem s_X8_go (b1 : Int32) (z : St) (P : Int32 → St → Prop) (ht : TX z) (hrx : RX z)  (hk : ∀ (r : Int32) (z2 : St), TX z2 → Same [8, 2104] [5, 19] z z2 → RX z2 → ((1 ≤ b1.toInt ∧ b1.toInt ≤ 48 ∧ (gI z 2104).toInt + b1.toInt ≤ 167 ∧ r.toInt = (gI z 2104).toInt + b1.toInt ∧ (gI z2 2104).toInt = (gI z 2104).toInt + b1.toInt) ∨ ((b1.toInt < 1 ∨ 48 < b1.toInt ∨ 167 < (gI z 2104).toInt + b1.toInt) ∧ r.toInt = -1 ∧ (gI z2 2104).toInt = (gI z 2104).toInt)) → P r z2) : wp_X8_go b1 z P := by
  unfold wp_X8_go
  intro K1 hK_1
  refine ⟨fun c4 => ?_, fun c4 => ?_⟩
  · skip
    have i_2 := i_lt rfl (show (1 : Int32).toInt = 1 by decide) c4
    refine hK_1  ?_
    have g_5 : (-1 : Int32).toInt = -1 := by decide
    refine s_X8_refuse ((-1 : Int32)) z _ ht  (fun r_3 z_4 tz_4 o_7 hp_6 => ?_)
    have oz_4 : Same [8, 2104] [5, 19] z z_4 := (Same.rf (z := z)).tr o_7 (by decide) (by decide)
    have xz_4 : RX z_4 := RX_same hrx o_7 (by decide) (by decide) (by decide) (by decide) (by decide) (by decide)
    have f_8 : 0 ≤ (gI z 2104).toInt ∧ (gI z 2104).toInt ≤ 167 := ht.1 2104
    have f_9 : 0 ≤ (gI z_4 2104).toInt ∧ (gI z_4 2104).toInt ≤ 167 := tz_4.1 2104
    have q_10 := (o_7.fi 2104 (by decide))
    exact hk r_3 z_4 tz_4 oz_4 xz_4 (by omega)
  · skip
    have i_11 := i_nlt rfl (show (1 : Int32).toInt = 1 by decide) c4
    refine ⟨fun c5 => ?_, fun c5 => ?_⟩
    · skip
      have i_12 := i_lt (show (48 : Int32).toInt = 48 by decide) rfl c5
      refine hK_1  ?_
      have g_15 : (-1 : Int32).toInt = -1 := by decide
      refine s_X8_refuse ((-1 : Int32)) z _ ht  (fun r_13 z_14 tz_14 o_17 hp_16 => ?_)
      have oz_14 : Same [8, 2104] [5, 19] z z_14 := (Same.rf (z := z)).tr o_17 (by decide) (by decide)
      have xz_14 : RX z_14 := RX_same hrx o_17 (by decide) (by decide) (by decide) (by decide) (by decide) (by decide)
      have f_18 : 0 ≤ (gI z 2104).toInt ∧ (gI z 2104).toInt ≤ 167 := ht.1 2104
      have f_19 : 0 ≤ (gI z_14 2104).toInt ∧ (gI z_14 2104).toInt ≤ 167 := tz_14.1 2104
      have q_20 := (o_17.fi 2104 (by decide))
      exact hk r_13 z_14 tz_14 oz_14 xz_14 (by omega)
    · skip
      have i_21 := i_nlt (show (48 : Int32).toInt = 48 by decide) rfl c5
      refine ⟨fun c6 => ?_, fun c6 => ?_⟩
      · skip
        have f_22 : 0 ≤ (gI z 2104).toInt ∧ (gI z 2104).toInt ≤ 167 := ht.1 2104
        have i_23 := i_lt (a_add rfl rfl (by omega) (by omega)) (show (168 : Int32).toInt = 168 by decide) c6
        intro z7 ez7
        have tz7 : TX z7 := by rw [ez7]; exact Ty_wI ht (show 0 ≤ ((gI z 2104) + b1).toInt ∧ ((gI z 2104) + b1).toInt ≤ 167 from by rw [(a_add rfl rfl (by omega) (by omega))]; omega)
        have oz7 : Same [8, 2104] [5, 19] z z7 := (Same.rf (z := z)).i (by decide) ez7
        have xz7 : RX z7 := by rw [ez7]; exact hrx
        have f_24 : 0 ≤ (gI z7 2104).toInt ∧ (gI z7 2104).toInt ≤ 167 := tz7.1 2104
        have q_25 := (show (gI z7 2104).toInt = ((gI z 2104) + b1).toInt by rw [ez7]; rfl)
        have q_26 : ((gI z 2104) + b1).toInt = ((gI z 2104).toInt + b1.toInt) := (a_add rfl rfl (by omega) (by omega))
        refine s_X1_beginBefore (gI z7 2104) z7 _ tz7 xz7  (fun z8 tz8 o_28 xz8 hp_27 => ?_)
        have oz8 : Same [8, 2104] [5, 19] z z8 := oz7.tr o_28 (by decide) (by decide)
        have f_29 : 0 ≤ (gI z8 2104).toInt ∧ (gI z8 2104).toInt ≤ 167 := tz8.1 2104
        have q_30 := ((o_28.fi 2104 (by decide))).trans (show (gI z7 2104).toInt = ((gI z 2104) + b1).toInt by rw [ez7]; rfl)
        have q_31 : ((gI z 2104) + b1).toInt = ((gI z 2104).toInt + b1.toInt) := (a_add rfl rfl (by omega) (by omega))
        refine s_X3_lay_5 (gI z8 2104) z8 _ tz8  (fun z10 tz10 o_33 hp_32 => ?_)
        have oz10 : Same [8, 2104] [5, 19] z z10 := oz8.tr o_33 (by decide) (by decide)
        have xz10 : RX z10 := RX_same xz8 o_33 (by decide) (by decide) (by decide) (by decide) (by decide) (by decide)
        have f_34 : 0 ≤ (gI z10 2104).toInt ∧ (gI z10 2104).toInt ≤ 167 := tz10.1 2104
        have q_35 := (((o_33.fi 2104 (by decide))).trans (o_28.fi 2104 (by decide))).trans (show (gI z7 2104).toInt = ((gI z 2104) + b1).toInt by rw [ez7]; rfl)
        have q_36 : ((gI z 2104) + b1).toInt = ((gI z 2104).toInt + b1.toInt) := (a_add rfl rfl (by omega) (by omega))
        refine s_X8_accept (gI z10 2104) z10 _ tz10  (fun r13 z12 tz12 o_38 hp_37 => ?_)
        have oz12 : Same [8, 2104] [5, 19] z z12 := oz10.tr o_38 (by decide) (by decide)
        have xz12 : RX z12 := RX_same xz10 o_38 (by decide) (by decide) (by decide) (by decide) (by decide) (by decide)
        have f_39 : 0 ≤ (gI z12 2104).toInt ∧ (gI z12 2104).toInt ≤ 167 := tz12.1 2104
        have q_40 := ((((o_38.fi 2104 (by decide))).trans (o_33.fi 2104 (by decide))).trans (o_28.fi 2104 (by decide))).trans (show (gI z7 2104).toInt = ((gI z 2104) + b1).toInt by rw [ez7]; rfl)
        have q_41 : ((gI z 2104) + b1).toInt = ((gI z 2104).toInt + b1.toInt) := (a_add rfl rfl (by omega) (by omega))
        exact hk r13 z12 tz12 oz12 xz12 (by omega)
      · skip
        have f_42 : 0 ≤ (gI z 2104).toInt ∧ (gI z 2104).toInt ≤ 167 := ht.1 2104
        have i_43 := i_nlt (a_add rfl rfl (by omega) (by omega)) (show (168 : Int32).toInt = 168 by decide) c6
        refine hK_1  ?_
        have g_46 : (-1 : Int32).toInt = -1 := by decide
        refine s_X8_refuse ((-1 : Int32)) z _ ht  (fun r_44 z_45 tz_45 o_48 hp_47 => ?_)
        have oz_45 : Same [8, 2104] [5, 19] z z_45 := (Same.rf (z := z)).tr o_48 (by decide) (by decide)
        have xz_45 : RX z_45 := RX_same hrx o_48 (by decide) (by decide) (by decide) (by decide) (by decide) (by decide)
        have f_49 : 0 ≤ (gI z_45 2104).toInt ∧ (gI z_45 2104).toInt ≤ 167 := tz_45.1 2104
        have q_50 := (o_48.fi 2104 (by decide))
        exact hk r_44 z_45 tz_45 oz_45 xz_45 (by omega)

set_option maxHeartbeats 2000000 in
theorem s_X8_load (b1 : Int32) (b2 : Int32) (z : St) (P : Int32 → Prop) (ht : TX z)  (hk : ∀ r : Int32, True → P r) : wp_X8_load b1 b2 z P := by
  unfold wp_X8_load
  refine s_X0_has b1 z _ ht  (fun r2 hp_1 => ?_)
  rcases hp_1 with ⟨er2, hp_1⟩ | ⟨er2, hp_1⟩
  · subst er2
    have f_2 : 0 ≤ (gI z 705).toInt ∧ (gI z 705).toInt ≤ 4 := ht.1 705
    refine ⟨fun hc => absurd hc (by decide), fun _ => ?_⟩
    refine s_X8_isHour b2 z _ ht  (fun r5 hp_3 => ?_)
    rcases hp_3 with ⟨er5, hp_3⟩ | ⟨er5, hp_3⟩
    · subst er5
      refine ⟨fun hc => absurd hc (by decide), fun _ => ?_⟩
      refine s_X0_draws b1 b2 z _ ht (by omega) (by omega) (fun r8 hp_4 => ?_)
      exact hk r8 trivial
    · subst er5
      refine ⟨fun _ => ?_, fun hc => absurd (show ((0 : Int32)) = ((0 : Int32)) by decide) hc⟩
      have g_5 : (-1 : Int32).toInt = -1 := by decide
      exact hk ((-1 : Int32)) trivial
  · subst er2
    have f_6 : 0 ≤ (gI z 705).toInt ∧ (gI z 705).toInt ≤ 4 := ht.1 705
    refine ⟨fun _ => ?_, fun hc => absurd (show ((0 : Int32)) = ((0 : Int32)) by decide) hc⟩
    have g_7 : (-1 : Int32).toInt = -1 := by decide
    exact hk ((-1 : Int32)) trivial

set_option maxHeartbeats 2000000 in
theorem s_J7_fill_53178_6 (b2 : Int32) (z : St) (P : St → Prop) (ht : TX z)  (hk : ∀ (z2 : St), TX z2 → Same [] [6] z z2 → (True) → P z2) : wp_J7_fill_53178_6 b2 z P := by
  unfold wp_J7_fill_53178_6
  intro K3 hK_1
  have L_2 : ∀ (n : Nat) (v1 : Int32) (v2 : Int32) (z4 : St), TX z4 → Same [] [6] z z4 → (0 ≤ v1.toInt) → (v1.toInt ≤ 168) → (v2.toInt = 168) → (168 - v1.toInt).toNat < n → K3 v1 v2 z4 := by
    intro n
    induction n with
    | zero => intro v1 v2 z4 tz4 ocz4 w_3 w_4 w_5 m_7; omega
    | succ n ih_6 =>
      intro v1 v2 z4 tz4 ocz4 w_3 w_4 w_5 m_7
      refine hK_1 v1 v2 z4 ?_
      refine ⟨fun c5 => ?_, fun c5 => ?_⟩
      · skip
        have i_8 := i_le rfl rfl c5
        exact hk z4 tz4 ocz4 trivial
      · skip
        have i_9 := i_nle rfl rfl c5
        refine ⟨vin rfl (by omega) (by omega), ?_⟩
        intro z6 ez6
        have tz6 : TX z6 := by rw [ez6]; exact Ty_wR tz4 trivial
        have oz6 : Same [] [6] z z6 := ocz4.r (by decide) ez6
        intro x7 ex7
        have ix7 : x7.toInt = (v1.toInt + (1)) := by rw [ex7]; exact (a_add rfl (show (1 : Int32).toInt = 1 by decide) (by omega) (by omega))
        exact ih_6 x7 v2 z6 tz6 oz6 (by omega) (by omega) (by omega) (by omega)
  have g_10 : (0 : Int32).toInt = 0 := by decide
  have g_11 : (168 : Int32).toInt = 168 := by decide
  exact L_2 ((168 - (0 : Int32).toInt).toNat + 1) ((0 : Int32)) ((168 : Int32)) z ht (Same.rf (z := z)) (by omega) (by omega) (by omega) (by omega)

set_option maxHeartbeats 2000000 in
theorem s_X3_lay_6 (b2 : Int32) (z : St) (P : St → Prop) (ht : TX z)  (hk : ∀ (z2 : St), TX z2 → Same [] [6] z z2 → (True) → P z2) : wp_X3_lay_6 b2 z P := by
  unfold wp_X3_lay_6
  refine s_J7_fill_53178_6 (gI z 106) z _ ht  (fun z1 tz1 o_2 hp_1 => ?_)
  have oz1 : Same [] [6] z z1 := (Same.rf (z := z)).tr o_2 (by decide) (by decide)
  intro K4 hK_3
  have L_4 : ∀ (n : Nat) (v3 : Int32) (z5 : St), TX z5 → Same [] [6] z z5 → (0 ≤ v3.toInt) → (v3.toInt ≤ 400) → (400 - v3.toInt).toNat < n → K4 v3 z5 := by
    intro n
    induction n with
    | zero => intro v3 z5 tz5 ocz5 w_5 w_6 m_8; omega
    | succ n ih_7 =>
      intro v3 z5 tz5 ocz5 w_5 w_6 m_8
      refine hK_3 v3 z5 ?_
      refine ⟨fun c6 => ?_, fun c6 => ?_⟩
      · skip
        have f_9 : 0 ≤ (gI z5 105).toInt ∧ (gI z5 105).toInt ≤ 400 := tz5.1 105
        have q_10 := (ocz5.fi 105 (by decide))
        have f_11 : 0 ≤ (gI z 105).toInt ∧ (gI z 105).toInt ≤ 400 := ht.1 105
        have i_12 := i_le rfl rfl c6
        exact hk z5 tz5 ocz5 trivial
      · skip
        have f_13 : 0 ≤ (gI z5 105).toInt ∧ (gI z5 105).toInt ≤ 400 := tz5.1 105
        have q_14 := (ocz5.fi 105 (by decide))
        have f_15 : 0 ≤ (gI z 105).toInt ∧ (gI z 105).toInt ≤ 400 := ht.1 105
        have i_16 := i_nle rfl rfl c6
        refine ⟨vin rfl (by omega) (by omega), ?_⟩
        intro K7 hK_17
        refine ⟨fun c10 => ?_, fun c10 => ?_⟩
        · skip
          have q_18 := (ocz5.ff 4 v3.toNatClampNeg (by decide))
          have i_19 := i_lt rfl rfl c10
          refine hK_17 z5 ?_
          intro y_20 ey_20
          have iy_20 : y_20.toInt = (v3.toInt + (1)) := by rw [ey_20]; exact (a_add rfl (show (1 : Int32).toInt = 1 by decide) (by omega) (by omega))
          exact ih_7 y_20 z5 tz5 ocz5 (by omega) (by omega) (by omega)
        · skip
          have q_21 := (ocz5.ff 4 v3.toNatClampNeg (by decide))
          have i_22 := i_nlt rfl rfl c10
          refine ⟨vin rfl (by omega) (by omega), ?_⟩
          refine ⟨vin rfl (by omega) (by omega), ?_⟩
          have f_23 : 0 ≤ (gF z5 2 v3.toNatClampNeg).toInt ∧ (gF z5 2 v3.toNatClampNeg).toInt ≤ 167 := tz5.2 2 _
          have q_24 := (ocz5.ff 2 v3.toNatClampNeg (by decide))
          have f_25 : 0 ≤ (gF z 2 v3.toNatClampNeg).toInt ∧ (gF z 2 v3.toNatClampNeg).toInt ≤ 167 := ht.2 2 _
          refine ⟨vin rfl (by omega) (by omega), ?_⟩
          intro z11 ez11
          have tz11 : TX z11 := by rw [ez11]; exact Ty_wR tz5 trivial
          have oz11 : Same [] [6] z z11 := ocz5.r (by decide) ez11
          refine hK_17 z11 ?_
          intro y_26 ey_26
          have iy_26 : y_26.toInt = (v3.toInt + (1)) := by rw [ey_26]; exact (a_add rfl (show (1 : Int32).toInt = 1 by decide) (by omega) (by omega))
          exact ih_7 y_26 z11 tz11 oz11 (by omega) (by omega) (by omega)
  have g_27 : (0 : Int32).toInt = 0 := by decide
  exact L_4 ((400 - (0 : Int32).toInt).toNat + 1) ((0 : Int32)) z1 tz1 oz1 (by omega) (by omega) (by omega)

set_option maxHeartbeats 2000000 in
theorem s_X1_costFrom_6 (b1 : Int32) (b2 : Int32) (z : St) (P : Int64 → Prop) (ht : TX z) (h0 : 0 ≤ b1.toInt ∧ b1.toInt ≤ 15) (h1 : 0 ≤ b2.toInt ∧ b2.toInt ≤ 167) (hk : ∀ r : Int64, True → P r) : wp_X1_costFrom_6 b1 b2 z P := by
  unfold wp_X1_costFrom_6
  intro K3 hK_1
  have L_2 : ∀ (n : Nat) (v1 : Int64) (v2 : Int32), (0 ≤ v2.toInt) → (v2.toInt ≤ 4) → (4 - v2.toInt).toNat < n → K3 v1 v2 := by
    intro n
    induction n with
    | zero => intro v1 v2 w_3 w_4 m_6; omega
    | succ n ih_5 =>
      intro v1 v2 w_3 w_4 m_6
      refine hK_1 v1 v2 ?_
      refine ⟨vin rfl (by omega) (by omega), ?_⟩
      refine ⟨fun c4 => ?_, fun c4 => ?_⟩
      · skip
        have f_7 : 0 ≤ (gF z 17 b1.toNatClampNeg).toInt ∧ (gF z 17 b1.toNatClampNeg).toInt ≤ 4 := ht.2 17 _
        have i_8 := i_le rfl rfl c4
        exact hk v1 trivial
      · skip
        have f_9 : 0 ≤ (gF z 17 b1.toNatClampNeg).toInt ∧ (gF z 17 b1.toNatClampNeg).toInt ≤ 4 := ht.2 17 _
        have i_10 := i_nle rfl rfl c4
        refine ⟨fun c5 => ?_, fun c5 => ?_⟩
        · skip
          have i_11 := i_le (show (168 : Int32).toInt = 168 by decide) (a_add rfl rfl (by omega) (by omega)) c5
          exact hk v1 trivial
        · skip
          have i_12 := i_nle (show (168 : Int32).toInt = 168 by decide) (a_add rfl rfl (by omega) (by omega)) c5
          refine ⟨vin (a_add (a_mul rfl (show (4 : Int32).toInt = 4 by decide) (by omega) (by omega)) rfl (by omega) (by omega)) (by omega) (by omega), ?_⟩
          refine ⟨vin (a_add rfl rfl (by omega) (by omega)) (by omega) (by omega), ?_⟩
          intro x6 ex6
          intro x7 ex7
          have ix7 : x7.toInt = (v2.toInt + (1)) := by rw [ex7]; exact (a_add rfl (show (1 : Int32).toInt = 1 by decide) (by omega) (by omega))
          exact ih_5 x6 x7 (by omega) (by omega) (by omega)
  have g_13 : (0 : Int32).toInt = 0 := by decide
  exact L_2 ((4 - (0 : Int32).toInt).toNat + 1) ((0 : Int64)) ((0 : Int32)) (by omega) (by omega) (by omega)

set_option maxHeartbeats 2000000 in
theorem s_X8_cost (b1 : Int32) (b2 : Int32) (z : St) (P : Int64 → St → Prop) (ht : TX z) (hrx : RX z)  (hk : ∀ (r : Int64) (z2 : St), TX z2 → Same [] [6] z z2 → RX z2 → (True) → P r z2) : wp_X8_cost b1 b2 z P := by
  unfold wp_X8_cost
  refine s_X1_has b1 z _ ht  (fun r2 hp_1 => ?_)
  rcases hp_1 with ⟨er2, hp_1⟩ | ⟨er2, hp_1⟩
  · subst er2
    have f_2 : 0 ≤ (gI z 1308).toInt ∧ (gI z 1308).toInt ≤ 16 := ht.1 1308
    refine ⟨fun hc => absurd hc (by decide), fun _ => ?_⟩
    refine ⟨vin rfl (by omega) (by omega), ?_⟩
    refine ⟨fun c4 => ?_, fun c4 => ?_⟩
    · skip
      have f_3 : 0 ≤ (gF z 19 b1.toNatClampNeg).toInt ∧ (gF z 19 b1.toNatClampNeg).toInt ≤ 2 := ht.2 19 _
      have u_4 := hrx.1 b1.toNatClampNeg
      have u_5 := hrx.2.2.2 b1.toNatClampNeg
      have cl_6 := clampI (x := b1) (n := 16) (vin rfl (by omega) (by omega))
      have f_7 : 0 ≤ (gF z 17 b1.toNatClampNeg).toInt ∧ (gF z 17 b1.toNatClampNeg).toInt ≤ 4 := ht.2 17 _
      have f_8 : -1 ≤ (gF z 20 b1.toNatClampNeg).toInt ∧ (gF z 20 b1.toNatClampNeg).toInt ≤ 167 := ht.2 20 _
      have i_9 := i_eq rfl (show (0 : Int32).toInt = 0 by decide) c4
      exact hk ((0 : Int64)) z ht (Same.rf (z := z)) hrx trivial
    · skip
      have f_10 : 0 ≤ (gF z 19 b1.toNatClampNeg).toInt ∧ (gF z 19 b1.toNatClampNeg).toInt ≤ 2 := ht.2 19 _
      have u_11 := hrx.1 b1.toNatClampNeg
      have u_12 := hrx.2.2.2 b1.toNatClampNeg
      have cl_13 := clampI (x := b1) (n := 16) (vin rfl (by omega) (by omega))
      have f_14 : 0 ≤ (gF z 17 b1.toNatClampNeg).toInt ∧ (gF z 17 b1.toNatClampNeg).toInt ≤ 4 := ht.2 17 _
      have f_15 : -1 ≤ (gF z 20 b1.toNatClampNeg).toInt ∧ (gF z 20 b1.toNatClampNeg).toInt ≤ 167 := ht.2 20 _
      have i_16 := i_ne rfl (show (0 : Int32).toInt = 0 by decide) c4
      refine s_X8_isKnown b2 z _ ht  (fun r6 hp_17 => ?_)
      rcases hp_17 with ⟨er6, hp_17⟩ | ⟨er6, hp_17⟩
      · subst er6
        refine ⟨fun _ => ?_, fun hc => absurd hc (by decide)⟩
        refine s_X3_lay_6 b2 z _ ht  (fun z8 tz8 o_19 hp_18 => ?_)
        have oz8 : Same [] [6] z z8 := (Same.rf (z := z)).tr o_19 (by decide) (by decide)
        have xz8 : RX z8 := RX_same hrx o_19 (by decide) (by decide) (by decide) (by decide) (by decide) (by decide)
        refine ⟨vin rfl (by omega) (by omega), ?_⟩
        have f_20 : -1 ≤ (gF z8 20 b1.toNatClampNeg).toInt ∧ (gF z8 20 b1.toNatClampNeg).toInt ≤ 167 := tz8.2 20 _
        have q_21 := (o_19.ff 20 b1.toNatClampNeg (by decide))
        have u_22 := xz8.1 b1.toNatClampNeg
        have u_23 := xz8.2.2.2 b1.toNatClampNeg
        have f_24 : 0 ≤ (gF z8 17 b1.toNatClampNeg).toInt ∧ (gF z8 17 b1.toNatClampNeg).toInt ≤ 4 := tz8.2 17 _
        have q_25 := (o_19.ff 17 b1.toNatClampNeg (by decide))
        have f_26 : 0 ≤ (gF z8 19 b1.toNatClampNeg).toInt ∧ (gF z8 19 b1.toNatClampNeg).toInt ≤ 2 := tz8.2 19 _
        have q_27 := (o_19.ff 19 b1.toNatClampNeg (by decide))
        refine s_X1_costFrom_6 b1 (gF z8 20 b1.toNatClampNeg) z8 _ tz8 (by omega) (by omega) (fun r11 hp_28 => ?_)
        exact hk r11 z8 tz8 oz8 xz8 trivial
      · subst er6
        refine ⟨fun hc => absurd hc (by decide), fun _ => ?_⟩
        exact hk ((0 : Int64)) z ht (Same.rf (z := z)) hrx trivial
  · subst er2
    have f_29 : 0 ≤ (gI z 1308).toInt ∧ (gI z 1308).toInt ≤ 16 := ht.1 1308
    refine ⟨fun _ => ?_, fun hc => absurd (show ((0 : Int32)) = ((0 : Int32)) by decide) hc⟩
    exact hk ((0 : Int64)) z ht (Same.rf (z := z)) hrx trivial

set_option maxHeartbeats 2000000 in
theorem s_X8_saved (b1 : Int32) (z : St) (P : Int64 → St → Prop) (ht : TX z) (hrx : RX z)  (hk : ∀ (r : Int64) (z2 : St), TX z2 → Same [] [6] z z2 → RX z2 → (True) → P r z2) : wp_X8_saved b1 z P := by
  unfold wp_X8_saved
  refine s_X8_isKnown b1 z _ ht  (fun r2 hp_1 => ?_)
  rcases hp_1 with ⟨er2, hp_1⟩ | ⟨er2, hp_1⟩
  · subst er2
    refine ⟨fun _ => ?_, fun hc => absurd hc (by decide)⟩
    refine s_X3_lay_6 b1 z _ ht  (fun z4 tz4 o_3 hp_2 => ?_)
    have oz4 : Same [] [6] z z4 := (Same.rf (z := z)).tr o_3 (by decide) (by decide)
    have xz4 : RX z4 := RX_same hrx o_3 (by decide) (by decide) (by decide) (by decide) (by decide) (by decide)
    intro K8 hK_4
    have L_5 : ∀ (n : Nat) (v6 : Int64) (v7 : Int32), (0 ≤ v7.toInt) → (v7.toInt ≤ 16) → (16 - v7.toInt).toNat < n → K8 v6 v7 := by
      intro n
      induction n with
      | zero => intro v6 v7 w_6 w_7 m_9; omega
      | succ n ih_8 =>
        intro v6 v7 w_6 w_7 m_9
        refine hK_4 v6 v7 ?_
        refine ⟨fun c9 => ?_, fun c9 => ?_⟩
        · skip
          have f_10 : 0 ≤ (gI z4 1308).toInt ∧ (gI z4 1308).toInt ≤ 16 := tz4.1 1308
          have q_11 := (o_3.fi 1308 (by decide))
          have f_12 : 0 ≤ (gI z 1308).toInt ∧ (gI z 1308).toInt ≤ 16 := ht.1 1308
          have i_13 := i_le rfl rfl c9
          exact hk v6 z4 tz4 oz4 xz4 trivial
        · skip
          have f_14 : 0 ≤ (gI z4 1308).toInt ∧ (gI z4 1308).toInt ≤ 16 := tz4.1 1308
          have q_15 := (o_3.fi 1308 (by decide))
          have f_16 : 0 ≤ (gI z 1308).toInt ∧ (gI z 1308).toInt ≤ 16 := ht.1 1308
          have i_17 := i_nle rfl rfl c9
          refine ⟨vin rfl (by omega) (by omega), ?_⟩
          intro K11 hK_18
          refine ⟨fun c13 => ?_, fun c13 => ?_⟩
          · skip
            have f_19 : 0 ≤ (gF z4 19 v7.toNatClampNeg).toInt ∧ (gF z4 19 v7.toNatClampNeg).toInt ≤ 2 := tz4.2 19 _
            have q_20 := (o_3.ff 19 v7.toNatClampNeg (by decide))
            have f_21 : 0 ≤ (gF z 19 v7.toNatClampNeg).toInt ∧ (gF z 19 v7.toNatClampNeg).toInt ≤ 2 := ht.2 19 _
            have u_22 := hrx.1 v7.toNatClampNeg
            have u_23 := hrx.2.2.2 v7.toNatClampNeg
            have cl_24 := clampI (x := v7) (n := 16) (vin rfl (by omega) (by omega))
            have f_25 : 0 ≤ (gF z 17 v7.toNatClampNeg).toInt ∧ (gF z 17 v7.toNatClampNeg).toInt ≤ 4 := ht.2 17 _
            have f_26 : -1 ≤ (gF z 20 v7.toNatClampNeg).toInt ∧ (gF z 20 v7.toNatClampNeg).toInt ≤ 167 := ht.2 20 _
            have u_27 := xz4.1 v7.toNatClampNeg
            have u_28 := xz4.2.2.2 v7.toNatClampNeg
            have f_29 : 0 ≤ (gF z4 17 v7.toNatClampNeg).toInt ∧ (gF z4 17 v7.toNatClampNeg).toInt ≤ 4 := tz4.2 17 _
            have q_30 := (o_3.ff 17 v7.toNatClampNeg (by decide))
            have f_31 : -1 ≤ (gF z4 20 v7.toNatClampNeg).toInt ∧ (gF z4 20 v7.toNatClampNeg).toInt ≤ 167 := tz4.2 20 _
            have q_32 := (o_3.ff 20 v7.toNatClampNeg (by decide))
            have i_33 := i_ne rfl (show (2 : Int32).toInt = 2 by decide) c13
            refine hK_18 v6 ?_
            intro y_34 ey_34
            have iy_34 : y_34.toInt = (v7.toInt + (1)) := by rw [ey_34]; exact (a_add rfl (show (1 : Int32).toInt = 1 by decide) (by omega) (by omega))
            exact ih_8 v6 y_34 (by omega) (by omega) (by omega)
          · skip
            have f_35 : 0 ≤ (gF z4 19 v7.toNatClampNeg).toInt ∧ (gF z4 19 v7.toNatClampNeg).toInt ≤ 2 := tz4.2 19 _
            have q_36 := (o_3.ff 19 v7.toNatClampNeg (by decide))
            have f_37 : 0 ≤ (gF z 19 v7.toNatClampNeg).toInt ∧ (gF z 19 v7.toNatClampNeg).toInt ≤ 2 := ht.2 19 _
            have u_38 := hrx.1 v7.toNatClampNeg
            have u_39 := hrx.2.2.2 v7.toNatClampNeg
            have cl_40 := clampI (x := v7) (n := 16) (vin rfl (by omega) (by omega))
            have f_41 : 0 ≤ (gF z 17 v7.toNatClampNeg).toInt ∧ (gF z 17 v7.toNatClampNeg).toInt ≤ 4 := ht.2 17 _
            have f_42 : -1 ≤ (gF z 20 v7.toNatClampNeg).toInt ∧ (gF z 20 v7.toNatClampNeg).toInt ≤ 167 := ht.2 20 _
            have u_43 := xz4.1 v7.toNatClampNeg
            have u_44 := xz4.2.2.2 v7.toNatClampNeg
            have f_45 : 0 ≤ (gF z4 17 v7.toNatClampNeg).toInt ∧ (gF z4 17 v7.toNatClampNeg).toInt ≤ 4 := tz4.2 17 _
            have q_46 := (o_3.ff 17 v7.toNatClampNeg (by decide))
            have f_47 : -1 ≤ (gF z4 20 v7.toNatClampNeg).toInt ∧ (gF z4 20 v7.toNatClampNeg).toInt ≤ 167 := tz4.2 20 _
            have q_48 := (o_3.ff 20 v7.toNatClampNeg (by decide))
            have i_49 := i_eq rfl (show (2 : Int32).toInt = 2 by decide) c13
            refine ⟨vin rfl (by omega) (by omega), ?_⟩
            have f_50 : 0 ≤ (gF z4 15 v7.toNatClampNeg).toInt ∧ (gF z4 15 v7.toNatClampNeg).toInt ≤ 167 := tz4.2 15 _
            have q_51 := (o_3.ff 15 v7.toNatClampNeg (by decide))
            have f_52 : 0 ≤ (gF z 15 v7.toNatClampNeg).toInt ∧ (gF z 15 v7.toNatClampNeg).toInt ≤ 167 := ht.2 15 _
            have u_53 := hrx.2.1 v7.toNatClampNeg
            have f_54 : 0 ≤ (gF z 16 v7.toNatClampNeg).toInt ∧ (gF z 16 v7.toNatClampNeg).toInt ≤ 167 := ht.2 16 _
            have u_55 := xz4.2.1 v7.toNatClampNeg
            have f_56 : 0 ≤ (gF z4 16 v7.toNatClampNeg).toInt ∧ (gF z4 16 v7.toNatClampNeg).toInt ≤ 167 := tz4.2 16 _
            have q_57 := (o_3.ff 16 v7.toNatClampNeg (by decide))
            refine s_X1_costFrom_6 v7 (gF z4 15 v7.toNatClampNeg) z4 _ tz4 (by omega) (by omega) (fun r15 hp_58 => ?_)
            intro x16 ex16
            refine ⟨vin rfl (by omega) (by omega), ?_⟩
            refine s_X1_costFrom_6 v7 (gF z4 20 v7.toNatClampNeg) z4 _ tz4 (by omega) (by omega) (fun r18 hp_59 => ?_)
            intro x19 ex19
            refine hK_18 x19 ?_
            intro y_60 ey_60
            have iy_60 : y_60.toInt = (v7.toInt + (1)) := by rw [ey_60]; exact (a_add rfl (show (1 : Int32).toInt = 1 by decide) (by omega) (by omega))
            exact ih_8 x19 y_60 (by omega) (by omega) (by omega)
    have g_61 : (0 : Int32).toInt = 0 := by decide
    exact L_5 ((16 - (0 : Int32).toInt).toNat + 1) ((0 : Int64)) ((0 : Int32)) (by omega) (by omega) (by omega)
  · subst er2
    refine ⟨fun hc => absurd hc (by decide), fun _ => ?_⟩
    exact hk ((0 : Int64)) z ht (Same.rf (z := z)) hrx trivial

set_option maxHeartbeats 2000000 in
theorem s_X7_add (b1 : Int32) (b2 : Int32) (b3 : Int32) (z : St) (P : Int32 → St → Prop) (ht : TX z) (h0 : 0 ≤ b1.toInt ∧ b1.toInt ≤ 3) (h1 : 0 ≤ b2.toInt ∧ b2.toInt ≤ 40) (h2 : 0 ≤ b3.toInt ∧ b3.toInt ≤ 40) (h3 : (gI z 3909).toInt ≤ 5) (hk : ∀ (r : Int32) (z2 : St), TX z2 → Same [3909] [40, 41, 42] z z2 → ((gI z2 3909).toInt = (gI z 3909).toInt + 1 ∧ r.toInt = (gI z 3909).toInt) → P r z2) : wp_X7_add b1 b2 b3 z P := by
  unfold wp_X7_add
  have f_1 : 0 ≤ (gI z 3909).toInt ∧ (gI z 3909).toInt ≤ 6 := ht.1 3909
  refine ⟨vin rfl (by omega) (by omega), ?_⟩
  intro z1 ez1
  have tz1 : TX z1 := by rw [ez1]; exact Ty_wR ht (show 0 ≤ b1.toInt ∧ b1.toInt ≤ 3 from by omega)
  have oz1 : Same [3909] [40, 41, 42] z z1 := (Same.rf (z := z)).r (by decide) ez1
  have f_2 : 0 ≤ (gI z1 3909).toInt ∧ (gI z1 3909).toInt ≤ 6 := tz1.1 3909
  have q_3 := (show (gI z1 3909).toInt = (gI z 3909).toInt by rw [ez1]; rfl)
  refine ⟨vin rfl (by omega) (by omega), ?_⟩
  intro z2 ez2
  have tz2 : TX z2 := by rw [ez2]; exact Ty_wR tz1 (show 0 ≤ b2.toInt ∧ b2.toInt ≤ 40 from by omega)
  have oz2 : Same [3909] [40, 41, 42] z z2 := oz1.r (by decide) ez2
  have f_4 : 0 ≤ (gI z2 3909).toInt ∧ (gI z2 3909).toInt ≤ 6 := tz2.1 3909
  have q_5 := ((show (gI z2 3909).toInt = (gI z1 3909).toInt by rw [ez2]; rfl)).trans (show (gI z1 3909).toInt = (gI z 3909).toInt by rw [ez1]; rfl)
  refine ⟨vin rfl (by omega) (by omega), ?_⟩
  intro z3 ez3
  have tz3 : TX z3 := by rw [ez3]; exact Ty_wR tz2 (show 0 ≤ b3.toInt ∧ b3.toInt ≤ 40 from by omega)
  have oz3 : Same [3909] [40, 41, 42] z z3 := oz2.r (by decide) ez3
  intro z4 ez4
  have f_6 : 0 ≤ (gI z3 3909).toInt ∧ (gI z3 3909).toInt ≤ 6 := tz3.1 3909
  have q_7 := (((show (gI z3 3909).toInt = (gI z2 3909).toInt by rw [ez3]; rfl)).trans (show (gI z2 3909).toInt = (gI z1 3909).toInt by rw [ez2]; rfl)).trans (show (gI z1 3909).toInt = (gI z 3909).toInt by rw [ez1]; rfl)
  have tz4 : TX z4 := by rw [ez4]; exact Ty_wI tz3 (show 0 ≤ ((gI z3 3909) + (1 : Int32)).toInt ∧ ((gI z3 3909) + (1 : Int32)).toInt ≤ 6 from by rw [(a_add rfl (show (1 : Int32).toInt = 1 by decide) (by omega) (by omega))]; omega)
  have oz4 : Same [3909] [40, 41, 42] z z4 := oz3.i (by decide) ez4
  have f_8 : 0 ≤ (gI z4 3909).toInt ∧ (gI z4 3909).toInt ≤ 6 := tz4.1 3909
  have q_9 := (show (gI z4 3909).toInt = ((gI z3 3909) + (1 : Int32)).toInt by rw [ez4]; rfl)
  have q_10 : ((gI z3 3909) + (1 : Int32)).toInt = ((gI z3 3909).toInt + (1)) := (a_add rfl (show (1 : Int32).toInt = 1 by decide) (by omega) (by omega))
  have g_11 : ((gI z4 3909) - (1 : Int32)).toInt = ((gI z4 3909).toInt - (1)) := (a_sub rfl (show (1 : Int32).toInt = 1 by decide) (by omega) (by omega))
  exact hk ((gI z4 3909) - ((1 : Int32))) z4 tz4 oz4 (by omega)

set_option maxHeartbeats 2000000 in
theorem s_X7_setFlow (b1 : Int32) (b2 : Int32) (b3 : Int32) (b4 : Int32) (b5 : Int32) (z : St) (P : St → Prop) (ht : TX z) (h0 : 0 ≤ b1.toInt ∧ b1.toInt ≤ 5) (h1 : 0 ≤ b2.toInt ∧ b2.toInt ≤ 10) (h2 : 0 ≤ b3.toInt ∧ b3.toInt ≤ 10) (h3 : 0 ≤ b4.toInt ∧ b4.toInt ≤ 3) (hk : ∀ (z2 : St), TX z2 → Same [] [43, 44, 45, 46] z z2 → (True) → P z2) : wp_X7_setFlow b1 b2 b3 b4 b5 z P := by
  unfold wp_X7_setFlow
  refine ⟨vin rfl (by omega) (by omega), ?_⟩
  intro z1 ez1
  have tz1 : TX z1 := by rw [ez1]; exact Ty_wR ht (show 0 ≤ b2.toInt ∧ b2.toInt ≤ 10 from by omega)
  have oz1 : Same [] [43, 44, 45, 46] z z1 := (Same.rf (z := z)).r (by decide) ez1
  refine ⟨vin rfl (by omega) (by omega), ?_⟩
  intro z2 ez2
  have tz2 : TX z2 := by rw [ez2]; exact Ty_wR tz1 (show 0 ≤ b3.toInt ∧ b3.toInt ≤ 10 from by omega)
  have oz2 : Same [] [43, 44, 45, 46] z z2 := oz1.r (by decide) ez2
  refine ⟨vin rfl (by omega) (by omega), ?_⟩
  intro z3 ez3
  have tz3 : TX z3 := by rw [ez3]; exact Ty_wR tz2 (show 0 ≤ b4.toInt ∧ b4.toInt ≤ 3 from by omega)
  have oz3 : Same [] [43, 44, 45, 46] z z3 := oz2.r (by decide) ez3
  refine ⟨vin rfl (by omega) (by omega), ?_⟩
  intro z4 ez4
  have tz4 : TX z4 := by rw [ez4]; exact Ty_wR tz3 trivial
  have oz4 : Same [] [43, 44, 45, 46] z z4 := oz3.r (by decide) ez4
  exact hk z4 tz4 oz4 trivial

