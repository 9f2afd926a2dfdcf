set_option maxHeartbeats 2000000 in
theorem s_X8_store (b1 : Int32) (b2 : Int32) (b3 : Int32) (b4 : Int32) (b5 : Int32) (b6 : Int32) (b7 : Int32) (z : St) (P : Int32 → St → Prop) (ht : TX z)  (hk : ∀ (r : Int32) (z2 : St), TX z2 → Same [8, 3909] [40, 41, 42, 43, 44, 45, 46] z z2 → (True) → P r z2) : wp_X8_store b1 b2 b3 b4 b5 b6 b7 z P := by
  unfold wp_X8_store
  intro K1 hK_1
  refine ⟨fun c4 => ?_, fun c4 => ?_⟩
  · skip
    have i_2 := i_lt rfl (show (1 : Int32).toInt = 1 by decide) c4
    refine hK_1  ?_
    have g_5 : (-1 : Int32).toInt = -1 := by decide
    refine s_X8_refuse ((-1 : Int32)) z _ ht  (fun r_3 z_4 tz_4 o_7 hp_6 => ?_)
    have oz_4 : Same [8, 3909] [40, 41, 42, 43, 44, 45, 46] z z_4 := (Same.rf (z := z)).tr o_7 (by decide) (by decide)
    exact hk r_3 z_4 tz_4 oz_4 trivial
  · skip
    have i_8 := i_nlt rfl (show (1 : Int32).toInt = 1 by decide) c4
    refine ⟨fun c5 => ?_, fun c5 => ?_⟩
    · skip
      have i_9 := i_lt (show (40 : Int32).toInt = 40 by decide) rfl c5
      refine hK_1  ?_
      have g_12 : (-1 : Int32).toInt = -1 := by decide
      refine s_X8_refuse ((-1 : Int32)) z _ ht  (fun r_10 z_11 tz_11 o_14 hp_13 => ?_)
      have oz_11 : Same [8, 3909] [40, 41, 42, 43, 44, 45, 46] z z_11 := (Same.rf (z := z)).tr o_14 (by decide) (by decide)
      exact hk r_10 z_11 tz_11 oz_11 trivial
    · skip
      have i_15 := i_nlt (show (40 : Int32).toInt = 40 by decide) rfl c5
      refine s_X8_isWithin b3 b2 z _ ht  (fun r7 hp_16 => ?_)
      rcases hp_16 with ⟨er7, hp_16⟩ | ⟨er7, hp_16⟩
      · subst er7
        refine ⟨fun hc => absurd hc (by decide), fun _ => ?_⟩
        refine ⟨fun c9 => ?_, fun c9 => ?_⟩
        · skip
          have i_17 := i_lt rfl (show (1 : Int32).toInt = 1 by decide) c9
          refine hK_1  ?_
          have g_20 : (-1 : Int32).toInt = -1 := by decide
          refine s_X8_refuse ((-1 : Int32)) z _ ht  (fun r_18 z_19 tz_19 o_22 hp_21 => ?_)
          have oz_19 : Same [8, 3909] [40, 41, 42, 43, 44, 45, 46] z z_19 := (Same.rf (z := z)).tr o_22 (by decide) (by decide)
          exact hk r_18 z_19 tz_19 oz_19 trivial
        · skip
          have i_23 := i_nlt rfl (show (1 : Int32).toInt = 1 by decide) c9
          refine ⟨fun c10 => ?_, fun c10 => ?_⟩
          · skip
            have i_24 := i_le rfl (show (1000 : Int32).toInt = 1000 by decide) c10
            have g_25 : (10 : Int32).toInt = 10 := by decide
            refine s_X8_isWithin b4 ((10 : Int32)) z _ ht  (fun r12 hp_26 => ?_)
            rcases hp_26 with ⟨er12, hp_26⟩ | ⟨er12, hp_26⟩
            · subst er12
              intro K13 hK_27
              refine ⟨fun hc => absurd hc (by decide), fun _ => ?_⟩
              have g_28 : (10 : Int32).toInt = 10 := by decide
              refine s_X8_isWithin b5 ((10 : Int32)) z _ ht  (fun r18 hp_29 => ?_)
              rcases hp_29 with ⟨er18, hp_29⟩ | ⟨er18, hp_29⟩
              · subst er18
                refine ⟨fun hc => absurd hc (by decide), fun _ => ?_⟩
                have g_30 : (3 : Int32).toInt = 3 := by decide
                refine s_X8_isWithin b6 ((3 : Int32)) z _ ht  (fun r21 hp_31 => ?_)
                rcases hp_31 with ⟨er21, hp_31⟩ | ⟨er21, hp_31⟩
                · subst er21
                  refine ⟨fun _ => ?_, fun hc => absurd hc (by decide)⟩
                  refine s_X0_has b1 z _ ht  (fun r24 hp_32 => ?_)
                  rcases hp_32 with ⟨er24, hp_32⟩ | ⟨er24, hp_32⟩
                  · subst er24
                    have f_33 : 0 ≤ (gI z 705).toInt ∧ (gI z 705).toInt ≤ 4 := ht.1 705
                    refine ⟨fun _ => ?_, fun hc => absurd hc (by decide)⟩
                    refine ⟨fun c26 => ?_, fun c26 => ?_⟩
                    · skip
                      have f_34 : 0 ≤ (gI z 3909).toInt ∧ (gI z 3909).toInt ≤ 6 := ht.1 3909
                      have i_35 := i_lt rfl (show (6 : Int32).toInt = 6 by decide) c26
                      refine s_X7_add b1 b2 b3 z _ ht (by omega) (by omega) (by omega) (by omega) (fun r28 z27 tz27 o_37 hp_36 => ?_)
                      have oz27 : Same [8, 3909] [40, 41, 42, 43, 44, 45, 46] z z27 := (Same.rf (z := z)).tr o_37 (by decide) (by decide)
                      have f_38 : 0 ≤ (gI z27 3909).toInt ∧ (gI z27 3909).toInt ≤ 6 := tz27.1 3909
                      refine s_X7_setFlow r28 b4 b5 b6 b7 z27 _ tz27 (by omega) (by omega) (by omega) (by omega) (fun z29 tz29 o_40 hp_39 => ?_)
                      have oz29 : Same [8, 3909] [40, 41, 42, 43, 44, 45, 46] z z29 := oz27.tr o_40 (by decide) (by decide)
                      refine s_X8_accept r28 z29 _ tz29  (fun r32 z31 tz31 o_42 hp_41 => ?_)
                      have oz31 : Same [8, 3909] [40, 41, 42, 43, 44, 45, 46] z z31 := oz29.tr o_42 (by decide) (by decide)
                      exact hk r32 z31 tz31 oz31 trivial
                    · skip
                      have f_43 : 0 ≤ (gI z 3909).toInt ∧ (gI z 3909).toInt ≤ 6 := ht.1 3909
                      have i_44 := i_nlt rfl (show (6 : Int32).toInt = 6 by decide) c26
                      have g_45 : (-5 : Int32).toInt = -5 := by decide
                      refine s_X8_refuse ((-5 : Int32)) z _ ht  (fun r34 z33 tz33 o_47 hp_46 => ?_)
                      have oz33 : Same [8, 3909] [40, 41, 42, 43, 44, 45, 46] z z33 := (Same.rf (z := z)).tr o_47 (by decide) (by decide)
                      exact hk r34 z33 tz33 oz33 trivial
                  · subst er24
                    have f_48 : 0 ≤ (gI z 705).toInt ∧ (gI z 705).toInt ≤ 4 := ht.1 705
                    refine ⟨fun hc => absurd hc (by decide), fun _ => ?_⟩
                    have g_49 : (-2 : Int32).toInt = -2 := by decide
                    refine s_X8_refuse ((-2 : Int32)) z _ ht  (fun r36 z35 tz35 o_51 hp_50 => ?_)
                    have oz35 : Same [8, 3909] [40, 41, 42, 43, 44, 45, 46] z z35 := (Same.rf (z := z)).tr o_51 (by decide) (by decide)
                    exact hk r36 z35 tz35 oz35 trivial
                · subst er21
                  refine ⟨fun hc => absurd hc (by decide), fun _ => ?_⟩
                  refine hK_27  ?_
                  have g_54 : (-1 : Int32).toInt = -1 := by decide
                  refine s_X8_refuse ((-1 : Int32)) z _ ht  (fun r_52 z_53 tz_53 o_56 hp_55 => ?_)
                  have oz_53 : Same [8, 3909] [40, 41, 42, 43, 44, 45, 46] z z_53 := (Same.rf (z := z)).tr o_56 (by decide) (by decide)
                  exact hk r_52 z_53 tz_53 oz_53 trivial
              · subst er18
                refine ⟨fun _ => ?_, fun hc => absurd (show ((0 : Int32)) = ((0 : Int32)) by decide) hc⟩
                refine hK_27  ?_
                have g_59 : (-1 : Int32).toInt = -1 := by decide
                refine s_X8_refuse ((-1 : Int32)) z _ ht  (fun r_57 z_58 tz_58 o_61 hp_60 => ?_)
                have oz_58 : Same [8, 3909] [40, 41, 42, 43, 44, 45, 46] z z_58 := (Same.rf (z := z)).tr o_61 (by decide) (by decide)
                exact hk r_57 z_58 tz_58 oz_58 trivial
            · subst er12
              intro K13 hK_62
              refine ⟨fun _ => ?_, fun hc => absurd (show ((0 : Int32)) = ((0 : Int32)) by decide) hc⟩
              refine hK_62  ?_
              have g_65 : (-1 : Int32).toInt = -1 := by decide
              refine s_X8_refuse ((-1 : Int32)) z _ ht  (fun r_63 z_64 tz_64 o_67 hp_66 => ?_)
              have oz_64 : Same [8, 3909] [40, 41, 42, 43, 44, 45, 46] z z_64 := (Same.rf (z := z)).tr o_67 (by decide) (by decide)
              exact hk r_63 z_64 tz_64 oz_64 trivial
          · skip
            have i_68 := i_nle rfl (show (1000 : Int32).toInt = 1000 by decide) c10
            refine hK_1  ?_
            have g_71 : (-1 : Int32).toInt = -1 := by decide
            refine s_X8_refuse ((-1 : Int32)) z _ ht  (fun r_69 z_70 tz_70 o_73 hp_72 => ?_)
            have oz_70 : Same [8, 3909] [40, 41, 42, 43, 44, 45, 46] z z_70 := (Same.rf (z := z)).tr o_73 (by decide) (by decide)
            exact hk r_69 z_70 tz_70 oz_70 trivial
      · subst er7
        refine ⟨fun _ => ?_, fun hc => absurd (show ((0 : Int32)) = ((0 : Int32)) by decide) hc⟩
        refine hK_1  ?_
        have g_76 : (-1 : Int32).toInt = -1 := by decide
        refine s_X8_refuse ((-1 : Int32)) z _ ht  (fun r_74 z_75 tz_75 o_78 hp_77 => ?_)
        have oz_75 : Same [8, 3909] [40, 41, 42, 43, 44, 45, 46] z z_75 := (Same.rf (z := z)).tr o_78 (by decide) (by decide)
        exact hk r_74 z_75 tz_75 oz_75 trivial

set_option maxHeartbeats 2000000 in
theorem s_X7_has (b1 : Int32) (z : St) (P : Int32 → Prop) (ht : TX z)  (hk : ∀ r : Int32, (r = 1 ∧ (0 ≤ b1.toInt ∧ b1.toInt < (gI z 3909).toInt)) ∨ (r = 0 ∧ (b1.toInt < 0 ∨ (gI z 3909).toInt ≤ b1.toInt)) → P r) : wp_X7_has b1 z P := by
  unfold wp_X7_has
  refine ⟨fun c1 => ?_, fun c1 => ?_⟩
  · skip
    have i_1 := i_lt rfl (show (0 : Int32).toInt = 0 by decide) c1
    have g_2 : (0 : Int32).toInt = 0 := by decide
    have f_3 : 0 ≤ (gI z 3909).toInt ∧ (gI z 3909).toInt ≤ 6 := ht.1 3909
    exact hk ((0 : Int32)) (Or.inr ⟨rfl, (by omega)⟩)
  · skip
    have i_4 := i_nlt rfl (show (0 : Int32).toInt = 0 by decide) c1
    refine ⟨fun c2 => ?_, fun c2 => ?_⟩
    · skip
      have f_5 : 0 ≤ (gI z 3909).toInt ∧ (gI z 3909).toInt ≤ 6 := ht.1 3909
      have i_6 := i_le rfl rfl c2
      have g_7 : (0 : Int32).toInt = 0 := by decide
      exact hk ((0 : Int32)) (Or.inr ⟨rfl, (by omega)⟩)
    · skip
      have f_8 : 0 ≤ (gI z 3909).toInt ∧ (gI z 3909).toInt ≤ 6 := ht.1 3909
      have i_9 := i_nle rfl rfl c2
      have g_10 : (1 : Int32).toInt = 1 := by decide
      exact hk ((1 : Int32)) (Or.inl ⟨rfl, (by omega)⟩)

set_option maxHeartbeats 2000000 in
theorem s_X7_mostOf (b1 : Int32) (z : St) (P : Int32 → Prop) (ht : TX z)  (hk : ∀ r : Int32, 0 ≤ r.toInt ∧ r.toInt ≤ 40 → P r) : wp_X7_mostOf b1 z P := by
  unfold wp_X7_mostOf
  refine s_X7_has b1 z _ ht  (fun r2 hp_1 => ?_)
  rcases hp_1 with ⟨er2, hp_1⟩ | ⟨er2, hp_1⟩
  · subst er2
    have f_2 : 0 ≤ (gI z 3909).toInt ∧ (gI z 3909).toInt ≤ 6 := ht.1 3909
    refine ⟨fun hc => absurd hc (by decide), fun _ => ?_⟩
    refine ⟨vin rfl (by omega) (by omega), ?_⟩
    have f_3 : 0 ≤ (gF z 41 b1.toNatClampNeg).toInt ∧ (gF z 41 b1.toNatClampNeg).toInt ≤ 40 := ht.2 41 _
    exact hk (gF z 41 b1.toNatClampNeg) (by omega)
  · subst er2
    have f_4 : 0 ≤ (gI z 3909).toInt ∧ (gI z 3909).toInt ≤ 6 := ht.1 3909
    refine ⟨fun _ => ?_, fun hc => absurd (show ((0 : Int32)) = ((0 : Int32)) by decide) hc⟩
    have g_5 : (40 : Int32).toInt = 40 := by decide
    exact hk ((40 : Int32)) (by omega)

set_option maxHeartbeats 2000000 in
theorem s_X8_level (b1 : Int32) (b2 : Int32) (z : St) (P : Int32 → St → Prop) (ht : TX z)  (hk : ∀ (r : Int32) (z2 : St), TX z2 → Same [8] [42] z z2 → (True) → P r z2) : wp_X8_level b1 b2 z P := by
  unfold wp_X8_level
  refine s_X7_mostOf b1 z _ ht  (fun r2 hp_1 => ?_)
  refine s_X8_isWithin b2 r2 z _ ht  (fun r4 hp_2 => ?_)
  rcases hp_2 with ⟨er4, hp_2⟩ | ⟨er4, hp_2⟩
  · subst er4
    refine ⟨fun _ => ?_, fun hc => absurd hc (by decide)⟩
    refine s_X7_has b1 z _ ht  (fun r7 hp_3 => ?_)
    rcases hp_3 with ⟨er7, hp_3⟩ | ⟨er7, hp_3⟩
    · subst er7
      have f_4 : 0 ≤ (gI z 3909).toInt ∧ (gI z 3909).toInt ≤ 6 := ht.1 3909
      refine ⟨fun _ => ?_, fun hc => absurd hc (by decide)⟩
      refine ⟨vin rfl (by omega) (by omega), ?_⟩
      intro x9 ex9
      have f_5 : 0 ≤ (gF z 42 b1.toNatClampNeg).toInt ∧ (gF z 42 b1.toNatClampNeg).toInt ≤ 40 := ht.2 42 _
      have ix9 : x9.toInt = (gF z 42 b1.toNatClampNeg).toInt := by rw [ex9]
      refine ⟨vin rfl (by omega) (by omega), ?_⟩
      intro z10 ez10
      have tz10 : TX z10 := by rw [ez10]; exact Ty_wR ht (show 0 ≤ b2.toInt ∧ b2.toInt ≤ 40 from by omega)
      have oz10 : Same [8] [42] z z10 := (Same.rf (z := z)).r (by decide) ez10
      refine s_X8_accept x9 z10 _ tz10  (fun r12 z11 tz11 o_7 hp_6 => ?_)
      have oz11 : Same [8] [42] z z11 := oz10.tr o_7 (by decide) (by decide)
      exact hk r12 z11 tz11 oz11 trivial
    · subst er7
      have f_8 : 0 ≤ (gI z 3909).toInt ∧ (gI z 3909).toInt ≤ 6 := ht.1 3909
      refine ⟨fun hc => absurd hc (by decide), fun _ => ?_⟩
      have g_9 : (-2 : Int32).toInt = -2 := by decide
      refine s_X8_refuse ((-2 : Int32)) z _ ht  (fun r14 z13 tz13 o_11 hp_10 => ?_)
      have oz13 : Same [8] [42] z z13 := (Same.rf (z := z)).tr o_11 (by decide) (by decide)
      exact hk r14 z13 tz13 oz13 trivial
  · subst er4
    refine ⟨fun hc => absurd hc (by decide), fun _ => ?_⟩
    have g_12 : (-1 : Int32).toInt = -1 := by decide
    refine s_X8_refuse ((-1 : Int32)) z _ ht  (fun r16 z15 tz15 o_14 hp_13 => ?_)
    have oz15 : Same [8] [42] z z15 := (Same.rf (z := z)).tr o_14 (by decide) (by decide)
    exact hk r16 z15 tz15 oz15 trivial

set_option maxHeartbeats 2000000 in
theorem s_X7_mostWithin (b1 : Int32) (b2 : Int32) (b3 : Int32) (z : St) (P : Int32 → Prop) (ht : TX z) (h0 : 0 ≤ b2.toInt ∧ b2.toInt ≤ 10) (hk : ∀ r : Int32, 0 ≤ r.toInt ∧ r.toInt ≤ b2.toInt → P r) : wp_X7_mostWithin b1 b2 b3 z P := by
  unfold wp_X7_mostWithin
  intro K2 hK_1
  have L_2 : ∀ (n : Nat) (v1 : Int32), (0 ≤ v1.toInt) → (v1.toInt ≤ b2.toInt) → (b2.toInt - v1.toInt).toNat < n → K2 v1 := by
    intro n
    induction n with
    | zero => intro v1 w_3 w_4 m_6; omega
    | succ n ih_5 =>
      intro v1 w_3 w_4 m_6
      refine hK_1 v1 ?_
      refine ⟨fun c3 => ?_, fun c3 => ?_⟩
      · skip
        have i_7 := i_le rfl rfl c3
        exact hk v1 (by omega)
      · skip
        have i_8 := i_nle rfl rfl c3
        refine ⟨fun c4 => ?_, fun c4 => ?_⟩
        · skip
          have i_9 := i_lt rfl rfl c4
          exact hk v1 (by omega)
        · skip
          have i_10 := i_nlt rfl rfl c4
          intro x5 ex5
          have ix5 : x5.toInt = (v1.toInt + (1)) := by rw [ex5]; exact (a_add rfl (show (1 : Int32).toInt = 1 by decide) (by omega) (by omega))
          exact ih_5 x5 (by omega) (by omega) (by omega)
  have g_11 : (0 : Int32).toInt = 0 := by decide
  exact L_2 ((b2.toInt - (0 : Int32).toInt).toNat + 1) ((0 : Int32)) (by omega) (by omega) (by omega)

set_option maxHeartbeats 2000000 in
theorem s_X7_mostOut (b1 : Int32) (b2 : Int32) (z : St) (P : Int32 → Prop) (ht : TX z) (h0 : 0 ≤ b1.toInt ∧ b1.toInt ≤ 5) (h1 : 0 ≤ b2.toInt ∧ b2.toInt ≤ 167) (hk : ∀ r : Int32, 0 ≤ r.toInt ∧ r.toInt ≤ 10 → P r) : wp_X7_mostOut b1 b2 z P := by
  unfold wp_X7_mostOut
  refine ⟨vin rfl (by omega) (by omega), ?_⟩
  have f_1 : 0 ≤ (gF z 40 b1.toNatClampNeg).toInt ∧ (gF z 40 b1.toNatClampNeg).toInt ≤ 3 := ht.2 40 _
  refine s_X0_draws (gF z 40 b1.toNatClampNeg) b2 z _ ht (by omega) (by omega) (fun r2 hp_2 => ?_)
  refine ⟨vin rfl (by omega) (by omega), ?_⟩
  refine ⟨vin rfl (by omega) (by omega), ?_⟩
  have f_3 : 0 ≤ (gF z 44 b1.toNatClampNeg).toInt ∧ (gF z 44 b1.toNatClampNeg).toInt ≤ 10 := ht.2 44 _
  refine s_X7_mostWithin r2 (gF z 44 b1.toNatClampNeg) (gF z 46 b1.toNatClampNeg) z _ ht (by omega) (fun r4 hp_4 => ?_)
  exact hk r4 (by omega)

set_option maxHeartbeats 2000000 in
theorem s_X7_mostIn (b1 : Int32) (b2 : Int32) (z : St) (P : Int32 → Prop) (ht : TX z) (h0 : 0 ≤ b1.toInt ∧ b1.toInt ≤ 5) (h1 : 0 ≤ b2.toInt ∧ b2.toInt ≤ 167) (hk : ∀ r : Int32, 0 ≤ r.toInt ∧ r.toInt ≤ 10 → P r) : wp_X7_mostIn b1 b2 z P := by
  unfold wp_X7_mostIn
  refine ⟨vin rfl (by omega) (by omega), ?_⟩
  have f_1 : 0 ≤ (gF z 40 b1.toNatClampNeg).toInt ∧ (gF z 40 b1.toNatClampNeg).toInt ≤ 3 := ht.2 40 _
  refine ⟨vin rfl (by omega) (by omega), ?_⟩
  refine ⟨vin rfl (by omega) (by omega), ?_⟩
  refine s_X0_draws (gF z 40 b1.toNatClampNeg) b2 z _ ht (by omega) (by omega) (fun r2 hp_2 => ?_)
  intro x3 ex3
  have ix3 : x3.toInt = ((gF z 8 (gF z 40 b1.toNatClampNeg).toNatClampNeg) - r2).toInt := by rw [ex3]
  refine ⟨vin rfl (by omega) (by omega), ?_⟩
  refine ⟨vin rfl (by omega) (by omega), ?_⟩
  have f_3 : 0 ≤ (gF z 43 b1.toNatClampNeg).toInt ∧ (gF z 43 b1.toNatClampNeg).toInt ≤ 10 := ht.2 43 _
  refine s_X7_mostWithin x3 (gF z 43 b1.toNatClampNeg) (gF z 46 b1.toNatClampNeg) z _ ht (by omega) (fun r5 hp_4 => ?_)
  exact hk r5 (by omega)

set_option maxHeartbeats 2000000 in
theorem s_X7_choose (b1 : Int32) (b2 : Int32) (b3 : Int32) (z : St) (P : St → Prop) (ht : TX z) (h0 : 0 ≤ b1.toInt ∧ b1.toInt ≤ 5) (h1 : 0 ≤ b2.toInt ∧ b2.toInt ≤ 167) (h2 : 0 ≤ b3.toInt ∧ b3.toInt ≤ 1927) (h3 : b3.toInt % 41 = 0) (hk : ∀ (z2 : St), TX z2 → Same [] [49] z z2 → (True) → P z2) : wp_X7_choose b1 b2 b3 z P := by
  unfold wp_X7_choose
  refine s_X7_mostOut b1 b2 z _ ht (by omega) (by omega) (fun r2 hp_1 => ?_)
  intro x3 ex3
  have ix3 : x3.toInt = (-r2.toInt) := by rw [ex3]; exact (a_neg rfl (by omega) (by omega))
  refine s_X7_mostIn b1 b2 z _ ht (by omega) (by omega) (fun r5 hp_2 => ?_)
  refine ⟨vin rfl (by omega) (by omega), ?_⟩
  refine ⟨vin rfl (by omega) (by omega), ?_⟩
  intro x6 ex6
  have ix6 : x6.toInt = ((gF z 46 b1.toNatClampNeg) * (gF z 5 b2.toNatClampNeg)).toInt := by rw [ex6]
  intro K8 hK_3
  have L_4 : ∀ (n : Nat) (v7 : Int32) (z9 : St), TX z9 → Same [] [49] z z9 → (0 ≤ v7.toInt) → (v7.toInt ≤ 41) → (41 - v7.toInt).toNat < n → K8 v7 z9 := by
    intro n
    induction n with
    | zero => intro v7 z9 tz9 ocz9 w_5 w_6 m_8; omega
    | succ n ih_7 =>
      intro v7 z9 tz9 ocz9 w_5 w_6 m_8
      refine hK_3 v7 z9 ?_
      refine ⟨vin rfl (by omega) (by omega), ?_⟩
      refine ⟨fun c10 => ?_, fun c10 => ?_⟩
      · skip
        have f_9 : 0 ≤ (gF z9 41 b1.toNatClampNeg).toInt ∧ (gF z9 41 b1.toNatClampNeg).toInt ≤ 40 := tz9.2 41 _
        have q_10 := (ocz9.ff 41 b1.toNatClampNeg (by decide))
        have f_11 : 0 ≤ (gF z 41 b1.toNatClampNeg).toInt ∧ (gF z 41 b1.toNatClampNeg).toInt ≤ 40 := ht.2 41 _
        have i_12 := i_lt rfl rfl c10
        exact hk z9 tz9 ocz9 trivial
      · skip
        have f_13 : 0 ≤ (gF z9 41 b1.toNatClampNeg).toInt ∧ (gF z9 41 b1.toNatClampNeg).toInt ≤ 40 := tz9.2 41 _
        have q_14 := (ocz9.ff 41 b1.toNatClampNeg (by decide))
        have f_15 : 0 ≤ (gF z 41 b1.toNatClampNeg).toInt ∧ (gF z 41 b1.toNatClampNeg).toInt ≤ 40 := ht.2 41 _
        have i_16 := i_nlt rfl rfl c10
        intro x11 ex11
        have ix11 := a_max rfl (a_neg rfl (by omega) (by omega)) ex11
        refine ⟨vin rfl (by omega) (by omega), ?_⟩
        intro x12 ex12
        have ix12 := a_min rfl (a_sub rfl rfl (by omega) (by omega)) ex12
        refine ⟨vin rfl (by omega) (by omega), ?_⟩
        intro z13 ez13
        have tz13 : TX z13 := by rw [ez13]; exact Ty_wL tz9
        have oz13 : Same [] [49] z z13 := ocz9.l ez13
        refine ⟨vin (a_add rfl rfl (by omega) (by omega)) (by omega) (by omega), ?_⟩
        intro z14 ez14
        have cl_17 := clampI (x := (b3 + v7)) (n := 1968) (vin (a_add rfl rfl (by omega) (by omega)) (by omega) (by omega))
        have g_18 : (b3 + v7).toInt = (b3.toInt + v7.toInt) := (a_add rfl rfl (by omega) (by omega))
        have tz14 : TX z14 := by rw [ez14]; exact Ty_wR tz13 (show -10 ≤ (0 : Int32).toInt ∧ (0 : Int32).toInt ≤ 40 - (((b3 + v7).toNatClampNeg % 41 : Nat) : Int) from by rw [(show (0 : Int32).toInt = 0 by decide)]; omega)
        have oz14 : Same [] [49] z z14 := oz13.r (by decide) ez14
        intro K16 hK_19
        have L_20 : ∀ (n : Nat) (v15 : Int32) (z17 : St), TX z17 → Same [] [49] z z17 → (-10 ≤ v15.toInt) → (v15.toInt ≤ 11) → (-v7.toInt ≤ v15.toInt) → (11 - v15.toInt).toNat < n → K16 v15 z17 := by
          intro n
          induction n with
          | zero => intro v15 z17 tz17 ocz17 w_21 w_22 w_23 m_25; omega
          | succ n ih_24 =>
            intro v15 z17 tz17 ocz17 w_21 w_22 w_23 m_25
            refine hK_19 v15 z17 ?_
            refine ⟨fun c18 => ?_, fun c18 => ?_⟩
            · skip
              have i_26 := i_lt rfl rfl c18
              intro x19 ex19
              have ix19 : x19.toInt = (v7.toInt + (1)) := by rw [ex19]; exact (a_add rfl (show (1 : Int32).toInt = 1 by decide) (by omega) (by omega))
              exact ih_7 x19 z17 tz17 ocz17 (by omega) (by omega) (by omega)
            · skip
              have i_27 := i_nlt rfl rfl c18
              refine ⟨vin rfl (by omega) (by omega), ?_⟩
              have f_28 : 0 ≤ (gF z17 45 b1.toNatClampNeg).toInt ∧ (gF z17 45 b1.toNatClampNeg).toInt ≤ 3 := tz17.2 45 _
              have q_29 := (ocz17.ff 45 b1.toNatClampNeg (by decide))
              have f_30 : 0 ≤ (gF z 45 b1.toNatClampNeg).toInt ∧ (gF z 45 b1.toNatClampNeg).toInt ≤ 3 := ht.2 45 _
              have mm_31 := a_max (show (0 : Int32).toInt = 0 by decide) (a_sub (a_add rfl rfl (by omega) (by omega)) rfl (by omega) (by omega)) (show (if (0 : Int32) < ((v7 + v15) - (gF z17 45 b1.toNatClampNeg)) then ((v7 + v15) - (gF z17 45 b1.toNatClampNeg)) else (0 : Int32)) = (if (0 : Int32) < ((v7 + v15) - (gF z17 45 b1.toNatClampNeg)) then ((v7 + v15) - (gF z17 45 b1.toNatClampNeg)) else (0 : Int32)) from rfl)
              refine ⟨vin rfl (by omega) (by omega), ?_⟩
              intro x20 ex20
              intro K21 hK_32
              refine ⟨fun c24 => ?_, fun c24 => ?_⟩
              · skip
                refine hK_32 z17 ?_
                intro y_33 ey_33
                have iy_33 : y_33.toInt = (v15.toInt + (1)) := by rw [ey_33]; exact (a_add rfl (show (1 : Int32).toInt = 1 by decide) (by omega) (by omega))
                exact ih_24 y_33 z17 tz17 ocz17 (by omega) (by omega) (by omega) (by omega)
              · skip
                refine ⟨vin rfl (by omega) (by omega), ?_⟩
                refine ⟨fun c25 => ?_, fun c25 => ?_⟩
                · skip
                  refine hK_32 z17 ?_
                  intro y_34 ey_34
                  have iy_34 : y_34.toInt = (v15.toInt + (1)) := by rw [ey_34]; exact (a_add rfl (show (1 : Int32).toInt = 1 by decide) (by omega) (by omega))
                  exact ih_24 y_34 z17 tz17 ocz17 (by omega) (by omega) (by omega) (by omega)
                · skip
                  refine ⟨vin rfl (by omega) (by omega), ?_⟩
                  intro z26 ez26
                  have tz26 : TX z26 := by rw [ez26]; exact Ty_wL tz17
                  have oz26 : Same [] [49] z z26 := ocz17.l ez26
                  refine ⟨vin (a_add rfl rfl (by omega) (by omega)) (by omega) (by omega), ?_⟩
                  intro z27 ez27
                  have cl_35 := clampI (x := (b3 + v7)) (n := 1968) (vin (a_add rfl rfl (by omega) (by omega)) (by omega) (by omega))
                  have g_36 : (b3 + v7).toInt = (b3.toInt + v7.toInt) := (a_add rfl rfl (by omega) (by omega))
                  have tz27 : TX z27 := by rw [ez27]; exact Ty_wR tz26 (show -10 ≤ v15.toInt ∧ v15.toInt ≤ 40 - (((b3 + v7).toNatClampNeg % 41 : Nat) : Int) from by omega)
                  have oz27 : Same [] [49] z z27 := oz26.r (by decide) ez27
                  refine hK_32 z27 ?_
                  intro y_37 ey_37
                  have iy_37 : y_37.toInt = (v15.toInt + (1)) := by rw [ey_37]; exact (a_add rfl (show (1 : Int32).toInt = 1 by decide) (by omega) (by omega))
                  exact ih_24 y_37 z27 tz27 oz27 (by omega) (by omega) (by omega) (by omega)
        exact L_20 ((11 - x11.toInt).toNat + 1) x11 z14 tz14 oz14 (by omega) (by omega) (by omega) (by omega)
  have g_38 : (0 : Int32).toInt = 0 := by decide
  exact L_4 ((41 - (0 : Int32).toInt).toNat + 1) ((0 : Int32)) z ht (Same.rf (z := z)) (by omega) (by omega) (by omega)

set_option maxHeartbeats 2000000 in
theorem s_X7_cheapest (b1 : Int32) (b2 : Int32) (b3 : Int32) (b4 : Int32) (z : St) (P : Int64 → St → Prop) (ht : TX z) (h0 : 0 ≤ b1.toInt ∧ b1.toInt ≤ 5) (h1 : 0 ≤ b2.toInt ∧ b2.toInt ≤ 167) (h2 : 1 ≤ b3.toInt ∧ b3.toInt ≤ 48) (h3 : b2.toInt + b3.toInt ≤ 168) (hk : ∀ (r : Int64) (z2 : St), TX z2 → Same [] [49] z z2 → (True) → P r z2) : wp_X7_cheapest b1 b2 b3 b4 z P := by
  unfold wp_X7_cheapest
  intro K2 hK_1
  have L_2 : ∀ (n : Nat) (v1 : Int32) (z3 : St), TX z3 → Same [] [49] z z3 → (0 ≤ v1.toInt) → (v1.toInt ≤ 41) → (41 - v1.toInt).toNat < n → K2 v1 z3 := by
    intro n
    induction n with
    | zero => intro v1 z3 tz3 ocz3 w_3 w_4 m_6; omega
    | succ n ih_5 =>
      intro v1 z3 tz3 ocz3 w_3 w_4 m_6
      refine hK_1 v1 z3 ?_
      refine ⟨vin rfl (by omega) (by omega), ?_⟩
      refine ⟨fun c4 => ?_, fun c4 => ?_⟩
      · skip
        have f_7 : 0 ≤ (gF z3 41 b1.toNatClampNeg).toInt ∧ (gF z3 41 b1.toNatClampNeg).toInt ≤ 40 := tz3.2 41 _
        have q_8 := (ocz3.ff 41 b1.toNatClampNeg (by decide))
        have f_9 : 0 ≤ (gF z 41 b1.toNatClampNeg).toInt ∧ (gF z 41 b1.toNatClampNeg).toInt ≤ 40 := ht.2 41 _
        have i_10 := i_lt rfl rfl c4
        intro K6 hK_11
        have L_12 : ∀ (n : Nat) (v5 : Int32) (z7 : St), TX z7 → Same [] [49] z z7 → (-1 ≤ v5.toInt) → (v5.toInt < b3.toInt) → (v5.toInt + 1).toNat < n → K6 v5 z7 := by
          intro n
          induction n with
          | zero => intro v5 z7 tz7 ocz7 w_13 w_14 m_16; omega
          | succ n ih_15 =>
            intro v5 z7 tz7 ocz7 w_13 w_14 m_16
            refine hK_11 v5 z7 ?_
            refine ⟨fun c8 => ?_, fun c8 => ?_⟩
            · skip
              have i_17 := i_lt rfl (show (0 : Int32).toInt = 0 by decide) c8
              refine ⟨vin rfl (by omega) (by omega), ?_⟩
              have f_18 : 0 ≤ (gF z7 42 b1.toNatClampNeg).toInt ∧ (gF z7 42 b1.toNatClampNeg).toInt ≤ 40 := tz7.2 42 _
              have q_19 := (ocz7.ff 42 b1.toNatClampNeg (by decide))
              have f_20 : 0 ≤ (gF z 42 b1.toNatClampNeg).toInt ∧ (gF z 42 b1.toNatClampNeg).toInt ≤ 40 := ht.2 42 _
              refine ⟨vin rfl (by omega) (by omega), ?_⟩
              exact hk (gG z7 48 (gF z7 42 b1.toNatClampNeg).toNatClampNeg) z7 tz7 ocz7 trivial
            · skip
              have i_21 := i_nlt rfl (show (0 : Int32).toInt = 0 by decide) c8
              have g_22 : (b2 + v5).toInt = (b2.toInt + v5.toInt) := (a_add rfl rfl (by omega) (by omega))
              have g_23 : (v5 * (41 : Int32)).toInt = (v5.toInt * (41)) := (a_mul rfl (show (41 : Int32).toInt = 41 by decide) (by omega) (by omega))
              refine s_X7_choose b1 (b2 + v5) (v5 * ((41 : Int32))) z7 _ tz7 (by omega) (by omega) (by omega) (by omega) (fun z9 tz9 o_25 hp_24 => ?_)
              have oz9 : Same [] [49] z z9 := ocz7.tr o_25 (by decide) (by decide)
              refine ⟨by decide, ?_⟩
              intro z11 ez11
              have tz11 : TX z11 := by rw [ez11]; exact Ty_wL tz9
              have oz11 : Same [] [49] z z11 := oz9.l ez11
              intro x12 ex12
              have ix12 : x12.toInt = (v5.toInt + (-1)) := by rw [ex12]; exact (a_add rfl (show (-1 : Int32).toInt = -1 by decide) (by omega) (by omega))
              exact ih_15 x12 z11 tz11 oz11 (by omega) (by omega) (by omega)
        intro x13 ex13
        have ix13 : x13.toInt = (b3.toInt - (1)) := by rw [ex13]; exact (a_sub rfl (show (1 : Int32).toInt = 1 by decide) (by omega) (by omega))
        exact L_12 ((x13.toInt + 1).toNat + 1) x13 z3 tz3 ocz3 (by omega) (by omega) (by omega)
      · skip
        have f_26 : 0 ≤ (gF z3 41 b1.toNatClampNeg).toInt ∧ (gF z3 41 b1.toNatClampNeg).toInt ≤ 40 := tz3.2 41 _
        have q_27 := (ocz3.ff 41 b1.toNatClampNeg (by decide))
        have f_28 : 0 ≤ (gF z 41 b1.toNatClampNeg).toInt ∧ (gF z 41 b1.toNatClampNeg).toInt ≤ 40 := ht.2 41 _
        have i_29 := i_nlt rfl rfl c4
        intro K16 hK_30
        refine ⟨fun c19 => ?_, fun c19 => ?_⟩
        · skip
          have i_31 := i_lt rfl rfl c19
          refine hK_30 ((1000000000000000000 : Int64)) v1 ?_
          refine ⟨vin rfl (by omega) (by omega), ?_⟩
          intro z_32 ez_32
          have tz_32 : TX z_32 := by rw [ez_32]; exact Ty_wL tz3
          have oz_32 : Same [] [49] z z_32 := ocz3.l ez_32
          intro y_33 ey_33
          have iy_33 : y_33.toInt = (v1.toInt + (1)) := by rw [ey_33]; exact (a_add rfl (show (1 : Int32).toInt = 1 by decide) (by omega) (by omega))
          exact ih_5 y_33 z_32 tz_32 oz_32 (by omega) (by omega) (by omega)
        · skip
          have i_34 := i_nlt rfl rfl c19
          refine hK_30 ((0 : Int64)) v1 ?_
          refine ⟨vin rfl (by omega) (by omega), ?_⟩
          intro z_35 ez_35
          have tz_35 : TX z_35 := by rw [ez_35]; exact Ty_wL tz3
          have oz_35 : Same [] [49] z z_35 := ocz3.l ez_35
          intro y_36 ey_36
          have iy_36 : y_36.toInt = (v1.toInt + (1)) := by rw [ey_36]; exact (a_add rfl (show (1 : Int32).toInt = 1 by decide) (by omega) (by omega))
          exact ih_5 y_36 z_35 tz_35 oz_35 (by omega) (by omega) (by omega)
  have g_37 : (0 : Int32).toInt = 0 := by decide
  exact L_2 ((41 - (0 : Int32).toInt).toNat + 1) ((0 : Int32)) z ht (Same.rf (z := z)) (by omega) (by omega) (by omega)

set_option maxHeartbeats 2000000 in
theorem s_X7_keep (b1 : Int32) (b2 : Int32) (z : St) (P : St → Prop) (ht : TX z) (h0 : 0 ≤ b1.toInt ∧ b1.toInt ≤ 5) (h1 : 1 ≤ b2.toInt ∧ b2.toInt ≤ 48) (hk : ∀ (z2 : St), TX z2 → Same [3915] [50, 51] z z2 → (True) → P z2) : wp_X7_keep b1 b2 z P := by
  unfold wp_X7_keep
  refine ⟨vin rfl (by omega) (by omega), ?_⟩
  intro x1 ex1
  have f_1 : 0 ≤ (gF z 42 b1.toNatClampNeg).toInt ∧ (gF z 42 b1.toNatClampNeg).toInt ≤ 40 := ht.2 42 _
  have ix1 : x1.toInt = (gF z 42 b1.toNatClampNeg).toInt := by rw [ex1]
  intro K4 hK_2
  have L_3 : ∀ (n : Nat) (v2 : Int32) (v3 : Int32) (z5 : St), TX z5 → Same [3915] [50, 51] z z5 → (0 ≤ v2.toInt) → (v2.toInt ≤ 40) → (0 ≤ v3.toInt) → (v3.toInt ≤ b2.toInt) → (b2.toInt - v3.toInt).toNat < n → K4 v2 v3 z5 := by
    intro n
    induction n with
    | zero => intro v2 v3 z5 tz5 ocz5 w_4 w_5 w_6 w_7 m_9; omega
    | succ n ih_8 =>
      intro v2 v3 z5 tz5 ocz5 w_4 w_5 w_6 w_7 m_9
      refine hK_2 v2 v3 z5 ?_
      refine ⟨fun c6 => ?_, fun c6 => ?_⟩
      · skip
        have i_10 := i_le rfl rfl c6
        intro z7 ez7
        have tz7 : TX z7 := by rw [ez7]; exact Ty_wI tz5 (show 0 ≤ b2.toInt ∧ b2.toInt ≤ 48 from by omega)
        have oz7 : Same [3915] [50, 51] z z7 := ocz5.i (by decide) ez7
        exact hk z7 tz7 oz7 trivial
      · skip
        have i_11 := i_nle rfl rfl c6
        refine ⟨vin (a_add (a_mul rfl (show (41 : Int32).toInt = 41 by decide) (by omega) (by omega)) rfl (by omega) (by omega)) (by omega) (by omega), ?_⟩
        refine ⟨vin rfl (by omega) (by omega), ?_⟩
        intro z8 ez8
        have tz8 : TX z8 := by rw [ez8]; exact Ty_wR tz5 trivial
        have oz8 : Same [3915] [50, 51] z z8 := ocz5.r (by decide) ez8
        refine ⟨vin rfl (by omega) (by omega), ?_⟩
        refine ⟨vin rfl (by omega) (by omega), ?_⟩
        intro x9 ex9
        have f_12 : 0 ≤ (gF z8 45 b1.toNatClampNeg).toInt ∧ (gF z8 45 b1.toNatClampNeg).toInt ≤ 3 := tz8.2 45 _
        have q_13 := (show (gF z8 50 v3.toNatClampNeg).toInt = (gF z5 49 ((v3 * (41 : Int32)) + v2).toNatClampNeg).toInt by rw [ez8, gF_upd, if_pos rfl])
        have f_14 : -10 ≤ (gF z5 49 ((v3 * (41 : Int32)) + v2).toNatClampNeg).toInt ∧ (gF z5 49 ((v3 * (41 : Int32)) + v2).toNatClampNeg).toInt ≤ 40 - ((((v3 * (41 : Int32)) + v2).toNatClampNeg % 41 : Nat) : Int) := tz5.2 49 _
        have cl_15 := clampI (x := ((v3 * (41 : Int32)) + v2)) (n := 1968) (vin (a_add (a_mul rfl (show (41 : Int32).toInt = 41 by decide) (by omega) (by omega)) rfl (by omega) (by omega)) (by omega) (by omega))
        have g_16 : ((v3 * (41 : Int32)) + v2).toInt = ((v3.toInt * (41)) + v2.toInt) := (a_add (a_mul rfl (show (41 : Int32).toInt = 41 by decide) (by omega) (by omega)) rfl (by omega) (by omega))
        have q_17 := (ocz5.ff 49 ((v3 * (41 : Int32)) + v2).toNatClampNeg (by decide))
        have f_18 : -10 ≤ (gF z 49 ((v3 * (41 : Int32)) + v2).toNatClampNeg).toInt ∧ (gF z 49 ((v3 * (41 : Int32)) + v2).toNatClampNeg).toInt ≤ 40 - ((((v3 * (41 : Int32)) + v2).toNatClampNeg % 41 : Nat) : Int) := ht.2 49 _
        have cl_19 := clampI (x := ((v3 * (41 : Int32)) + v2)) (n := 1968) (vin (a_add (a_mul rfl (show (41 : Int32).toInt = 41 by decide) (by omega) (by omega)) rfl (by omega) (by omega)) (by omega) (by omega))
        have g_20 : ((v3 * (41 : Int32)) + v2).toInt = ((v3.toInt * (41)) + v2.toInt) := (a_add (a_mul rfl (show (41 : Int32).toInt = 41 by decide) (by omega) (by omega)) rfl (by omega) (by omega))
        have q_21 := ((show (gF z8 45 b1.toNatClampNeg).toInt = (gF z5 45 b1.toNatClampNeg).toInt by rw [ez8]; rfl)).trans (ocz5.ff 45 b1.toNatClampNeg (by decide))
        have f_22 : 0 ≤ (gF z 45 b1.toNatClampNeg).toInt ∧ (gF z 45 b1.toNatClampNeg).toInt ≤ 3 := ht.2 45 _
        have ix9 := a_max (show (0 : Int32).toInt = 0 by decide) (a_sub (a_add rfl rfl (by omega) (by omega)) rfl (by omega) (by omega)) ex9
        refine ⟨vin rfl (by omega) (by omega), ?_⟩
        intro z10 ez10
        have tz10 : TX z10 := by rw [ez10]; exact Ty_wR tz8 trivial
        have oz10 : Same [3915] [50, 51] z z10 := oz8.r (by decide) ez10
        intro x11 ex11
        have ix11 : x11.toInt = (v3.toInt + (1)) := by rw [ex11]; exact (a_add rfl (show (1 : Int32).toInt = 1 by decide) (by omega) (by omega))
        exact ih_8 x9 x11 z10 tz10 oz10 (by omega) (by omega) (by omega) (by omega) (by omega)
  have g_23 : (0 : Int32).toInt = 0 := by decide
  exact L_3 ((b2.toInt - (0 : Int32).toInt).toNat + 1) x1 ((0 : Int32)) z ht (Same.rf (z := z)) (by omega) (by omega) (by omega) (by omega) (by omega)

set_option maxHeartbeats 2000000 in
theorem s_X8_fill (b1 : Int32) (b2 : Int32) (b3 : Int32) (z : St) (P : Int64 → St → Prop) (ht : TX z)  (hk : ∀ (r : Int64) (z2 : St), TX z2 → Same [8, 3915] [49, 50, 51] z z2 → (True) → P r z2) : wp_X8_fill b1 b2 b3 z P := by
  unfold wp_X8_fill
  intro K1 hK_1
  refine ⟨fun c4 => ?_, fun c4 => ?_⟩
  · skip
    have i_2 := i_lt rfl (show (1 : Int32).toInt = 1 by decide) c4
    refine hK_1  ?_
    have g_5 : (-1 : Int32).toInt = -1 := by decide
    refine s_X8_refuse ((-1 : Int32)) z _ ht  (fun r_3 z_4 tz_4 o_7 hp_6 => ?_)
    have oz_4 : Same [8, 3915] [49, 50, 51] z z_4 := (Same.rf (z := z)).tr o_7 (by decide) (by decide)
    exact hk (((-4000000000000000000 : Int64)) + (Int32.toInt64 r_3)) z_4 tz_4 oz_4 trivial
  · skip
    have i_8 := i_nlt rfl (show (1 : Int32).toInt = 1 by decide) c4
    refine ⟨fun c5 => ?_, fun c5 => ?_⟩
    · skip
      have i_9 := i_lt (show (48 : Int32).toInt = 48 by decide) rfl c5
      refine hK_1  ?_
      have g_12 : (-1 : Int32).toInt = -1 := by decide
      refine s_X8_refuse ((-1 : Int32)) z _ ht  (fun r_10 z_11 tz_11 o_14 hp_13 => ?_)
      have oz_11 : Same [8, 3915] [49, 50, 51] z z_11 := (Same.rf (z := z)).tr o_14 (by decide) (by decide)
      exact hk (((-4000000000000000000 : Int64)) + (Int32.toInt64 r_10)) z_11 tz_11 oz_11 trivial
    · skip
      have i_15 := i_nlt (show (48 : Int32).toInt = 48 by decide) rfl c5
      refine ⟨fun c6 => ?_, fun c6 => ?_⟩
      · skip
        have f_16 : 0 ≤ (gI z 2104).toInt ∧ (gI z 2104).toInt ≤ 167 := ht.1 2104
        have i_17 := i_lt (show (168 : Int32).toInt = 168 by decide) (a_add rfl rfl (by omega) (by omega)) c6
        refine hK_1  ?_
        have g_20 : (-1 : Int32).toInt = -1 := by decide
        refine s_X8_refuse ((-1 : Int32)) z _ ht  (fun r_18 z_19 tz_19 o_22 hp_21 => ?_)
        have oz_19 : Same [8, 3915] [49, 50, 51] z z_19 := (Same.rf (z := z)).tr o_22 (by decide) (by decide)
        exact hk (((-4000000000000000000 : Int64)) + (Int32.toInt64 r_18)) z_19 tz_19 oz_19 trivial
      · skip
        have f_23 : 0 ≤ (gI z 2104).toInt ∧ (gI z 2104).toInt ≤ 167 := ht.1 2104
        have i_24 := i_nlt (show (168 : Int32).toInt = 168 by decide) (a_add rfl rfl (by omega) (by omega)) c6
        refine s_X7_mostOf b1 z _ ht  (fun r8 hp_25 => ?_)
        refine s_X8_isWithin b3 r8 z _ ht  (fun r10 hp_26 => ?_)
        rcases hp_26 with ⟨er10, hp_26⟩ | ⟨er10, hp_26⟩
        · subst er10
          refine ⟨fun _ => ?_, fun hc => absurd hc (by decide)⟩
          refine s_X7_has b1 z _ ht  (fun r13 hp_27 => ?_)
          rcases hp_27 with ⟨er13, hp_27⟩ | ⟨er13, hp_27⟩
          · subst er13
            have f_28 : 0 ≤ (gI z 3909).toInt ∧ (gI z 3909).toInt ≤ 6 := ht.1 3909
            refine ⟨fun _ => ?_, fun hc => absurd hc (by decide)⟩
            refine s_X7_cheapest b1 (gI z 2104) b2 b3 z _ ht (by omega) (by omega) (by omega) (by omega) (fun r16 z15 tz15 o_30 hp_29 => ?_)
            have oz15 : Same [8, 3915] [49, 50, 51] z z15 := (Same.rf (z := z)).tr o_30 (by decide) (by decide)
            refine ⟨fun c17 => ?_, fun c17 => ?_⟩
            · skip
              refine s_X7_keep b1 b2 z15 _ tz15 (by omega) (by omega) (fun z18 tz18 o_32 hp_31 => ?_)
              have oz18 : Same [8, 3915] [49, 50, 51] z z18 := oz15.tr o_32 (by decide) (by decide)
              have g_33 : (0 : Int32).toInt = 0 := by decide
              refine s_X8_accept ((0 : Int32)) z18 _ tz18  (fun r21 z20 tz20 o_35 hp_34 => ?_)
              have oz20 : Same [8, 3915] [49, 50, 51] z z20 := oz18.tr o_35 (by decide) (by decide)
              exact hk r16 z20 tz20 oz20 trivial
            · skip
              have g_36 : (-6 : Int32).toInt = -6 := by decide
              refine s_X8_refuse ((-6 : Int32)) z15 _ tz15  (fun r23 z22 tz22 o_38 hp_37 => ?_)
              have oz22 : Same [8, 3915] [49, 50, 51] z z22 := oz15.tr o_38 (by decide) (by decide)
              exact hk (((-4000000000000000000 : Int64)) + (Int32.toInt64 r23)) z22 tz22 oz22 trivial
          · subst er13
            have f_39 : 0 ≤ (gI z 3909).toInt ∧ (gI z 3909).toInt ≤ 6 := ht.1 3909
            refine ⟨fun hc => absurd hc (by decide), fun _ => ?_⟩
            have g_40 : (-2 : Int32).toInt = -2 := by decide
            refine s_X8_refuse ((-2 : Int32)) z _ ht  (fun r25 z24 tz24 o_42 hp_41 => ?_)
            have oz24 : Same [8, 3915] [49, 50, 51] z z24 := (Same.rf (z := z)).tr o_42 (by decide) (by decide)
            exact hk (((-4000000000000000000 : Int64)) + (Int32.toInt64 r25)) z24 tz24 oz24 trivial
        · subst er10
          refine ⟨fun hc => absurd hc (by decide), fun _ => ?_⟩
          refine hK_1  ?_
          have g_45 : (-1 : Int32).toInt = -1 := by decide
          refine s_X8_refuse ((-1 : Int32)) z _ ht  (fun r_43 z_44 tz_44 o_47 hp_46 => ?_)
          have oz_44 : Same [8, 3915] [49, 50, 51] z z_44 := (Same.rf (z := z)).tr o_47 (by decide) (by decide)
          exact hk (((-4000000000000000000 : Int64)) + (Int32.toInt64 r_43)) z_44 tz_44 oz_44 trivial

set_option maxHeartbeats 2000000 in
theorem s_X8_filled (b1 : Int32) (b2 : Int32) (z : St) (P : Int32 → Prop) (ht : TX z)  (hk : ∀ r : Int32, True → P r) : wp_X8_filled b1 b2 z P := by
  unfold wp_X8_filled
  refine ⟨fun c1 => ?_, fun c1 => ?_⟩
  · skip
    have i_1 := i_lt rfl (show (0 : Int32).toInt = 0 by decide) c1
    have g_2 : (-1000 : Int32).toInt = -1000 := by decide
    exact hk ((-1000 : Int32)) trivial
  · skip
    have i_3 := i_nlt rfl (show (0 : Int32).toInt = 0 by decide) c1
    refine ⟨fun c2 => ?_, fun c2 => ?_⟩
    · skip
      have f_4 : 0 ≤ (gI z 3915).toInt ∧ (gI z 3915).toInt ≤ 48 := ht.1 3915
      have i_5 := i_lt rfl rfl c2
      refine ⟨fun c3 => ?_, fun c3 => ?_⟩
      · skip
        have i_6 := i_ne rfl (show (0 : Int32).toInt = 0 by decide) c3
        refine ⟨fun c4 => ?_, fun c4 => ?_⟩
        · skip
          have i_7 := i_ne rfl (show (1 : Int32).toInt = 1 by decide) c4
          have g_8 : (-1000 : Int32).toInt = -1000 := by decide
          exact hk ((-1000 : Int32)) trivial
        · skip
          have i_9 := i_eq rfl (show (1 : Int32).toInt = 1 by decide) c4
          refine ⟨vin rfl (by omega) (by omega), ?_⟩
          exact hk (gF z 51 b1.toNatClampNeg) trivial
      · skip
        have i_10 := i_eq rfl (show (0 : Int32).toInt = 0 by decide) c3
        refine ⟨vin rfl (by omega) (by omega), ?_⟩
        exact hk (gF z 50 b1.toNatClampNeg) trivial
    · skip
      have f_11 : 0 ≤ (gI z 3915).toInt ∧ (gI z 3915).toInt ≤ 48 := ht.1 3915
      have i_12 := i_nlt rfl rfl c2
      have g_13 : (-1000 : Int32).toInt = -1000 := by decide
      exact hk ((-1000 : Int32)) trivial

set_option maxHeartbeats 2000000 in
theorem s_X8_count (b1 : Int32) (z : St) (P : Int32 → Prop) (ht : TX z)  (hk : ∀ r : Int32, True → P r) : wp_X8_count b1 z P := by
  unfold wp_X8_count
  refine ⟨fun c1_0 => ?_, fun c1_1 => ?_, fun c1_2 => ?_, fun c1_3 => ?_, fun c1_4 => ?_, fun c1_5 => ?_, fun c1_6 => ?_, fun c1_7 => ?_, fun c1_8 => ?_, fun c1_9 => ?_, fun c1_d => ?_⟩
  · skip
    have f_1 : 0 ≤ (gI z 2104).toInt ∧ (gI z 2104).toInt ≤ 167 := ht.1 2104
    exact hk (gI z 2104) trivial
  · skip
    have f_2 : 0 ≤ (gI z 705).toInt ∧ (gI z 705).toInt ≤ 4 := ht.1 705
    exact hk (gI z 705) trivial
  · skip
    have f_3 : 0 ≤ (gI z 1308).toInt ∧ (gI z 1308).toInt ≤ 16 := ht.1 1308
    exact hk (gI z 1308) trivial
  · skip
    have f_4 : 0 ≤ (gI z 105).toInt ∧ (gI z 105).toInt ≤ 400 := ht.1 105
    exact hk (gI z 105) trivial
  · skip
    exact hk (gI z 3403) trivial
  · skip
    have f_5 : 0 ≤ (gI z 3909).toInt ∧ (gI z 3909).toInt ≤ 6 := ht.1 3909
    exact hk (gI z 3909) trivial
  · skip
    have f_6 : 0 ≤ (gI z 3701).toInt ∧ (gI z 3701).toInt ≤ 300 := ht.1 3701
    exact hk (gI z 3701) trivial
  · skip
    have g_7 : (0 : Int32).toInt = 0 := by decide
    refine s_X1_inState ((0 : Int32)) z _ ht  (fun r3 hp_8 => ?_)
    exact hk r3 trivial
  · skip
    have g_9 : (1 : Int32).toInt = 1 := by decide
    refine s_X1_inState ((1 : Int32)) z _ ht  (fun r5 hp_10 => ?_)
    exact hk r5 trivial
  · skip
    have g_11 : (2 : Int32).toInt = 2 := by decide
    refine s_X1_inState ((2 : Int32)) z _ ht  (fun r7 hp_12 => ?_)
    exact hk r7 trivial
  · skip
    have g_13 : (-1 : Int32).toInt = -1 := by decide
    exact hk ((-1 : Int32)) trivial

set_option maxHeartbeats 2000000 in
theorem s_X8_status  (z : St) (P : Int32 → Prop) (ht : TX z)  (hk : ∀ r : Int32, True → P r) : wp_X8_status  z P := by
  unfold wp_X8_status
  exact hk (gI z 8) trivial

set_option maxHeartbeats 2000000 in
theorem s_J7_fill_53178_53 (b2 : Int32) (z : St) (P : St → Prop) (ht : TX z)  (hk : ∀ (z2 : St), TX z2 → Same [] [53] z z2 → (True) → P z2) : wp_J7_fill_53178_53 b2 z P := by
  unfold wp_J7_fill_53178_53
  intro K3 hK_1
  have L_2 : ∀ (n : Nat) (v1 : Int32) (v2 : Int32) (z4 : St), TX z4 → Same [] [53] z z4 → (0 ≤ v1.toInt) → (v1.toInt ≤ 4) → (v2.toInt = 4) → (4 - v1.toInt).toNat < n → K3 v1 v2 z4 := by
    intro n
    induction n with
    | zero => intro v1 v2 z4 tz4 ocz4 w_3 w_4 w_5 m_7; omega
    | succ n ih_6 =>
      intro v1 v2 z4 tz4 ocz4 w_3 w_4 w_5 m_7
      refine hK_1 v1 v2 z4 ?_
      refine ⟨fun c5 => ?_, fun c5 => ?_⟩
      · skip
        have i_8 := i_le rfl rfl c5
        exact hk z4 tz4 ocz4 trivial
      · skip
        have i_9 := i_nle rfl rfl c5
        refine ⟨vin rfl (by omega) (by omega), ?_⟩
        intro z6 ez6
        have tz6 : TX z6 := by rw [ez6]; exact Ty_wR tz4 trivial
        have oz6 : Same [] [53] z z6 := ocz4.r (by decide) ez6
        intro x7 ex7
        have ix7 : x7.toInt = (v1.toInt + (1)) := by rw [ex7]; exact (a_add rfl (show (1 : Int32).toInt = 1 by decide) (by omega) (by omega))
        exact ih_6 x7 v2 z6 tz6 oz6 (by omega) (by omega) (by omega) (by omega)
  have g_10 : (0 : Int32).toInt = 0 := by decide
  have g_11 : (4 : Int32).toInt = 4 := by decide
  exact L_2 ((4 - (0 : Int32).toInt).toNat + 1) ((0 : Int32)) ((4 : Int32)) z ht (Same.rf (z := z)) (by omega) (by omega) (by omega) (by omega)

set_option maxHeartbeats 2000000 in
theorem s_J7_fill_53178_54 (b2 : Int32) (z : St) (P : St → Prop) (ht : TX z)  (hk : ∀ (z2 : St), TX z2 → Same [] [54] z z2 → (True) → P z2) : wp_J7_fill_53178_54 b2 z P := by
  unfold wp_J7_fill_53178_54
  intro K3 hK_1
  have L_2 : ∀ (n : Nat) (v1 : Int32) (v2 : Int32) (z4 : St), TX z4 → Same [] [54] z z4 → (0 ≤ v1.toInt) → (v1.toInt ≤ 16) → (v2.toInt = 16) → (16 - v1.toInt).toNat < n → K3 v1 v2 z4 := by
    intro n
    induction n with
    | zero => intro v1 v2 z4 tz4 ocz4 w_3 w_4 w_5 m_7; omega
    | succ n ih_6 =>
      intro v1 v2 z4 tz4 ocz4 w_3 w_4 w_5 m_7
      refine hK_1 v1 v2 z4 ?_
      refine ⟨fun c5 => ?_, fun c5 => ?_⟩
      · skip
        have i_8 := i_le rfl rfl c5
        exact hk z4 tz4 ocz4 trivial
      · skip
        have i_9 := i_nle rfl rfl c5
        refine ⟨vin rfl (by omega) (by omega), ?_⟩
        intro z6 ez6
        have tz6 : TX z6 := by rw [ez6]; exact Ty_wR tz4 trivial
        have oz6 : Same [] [54] z z6 := ocz4.r (by decide) ez6
        intro x7 ex7
        have ix7 : x7.toInt = (v1.toInt + (1)) := by rw [ex7]; exact (a_add rfl (show (1 : Int32).toInt = 1 by decide) (by omega) (by omega))
        exact ih_6 x7 v2 z6 tz6 oz6 (by omega) (by omega) (by omega) (by omega)
  have g_10 : (0 : Int32).toInt = 0 := by decide
  have g_11 : (16 : Int32).toInt = 16 := by decide
  exact L_2 ((16 - (0 : Int32).toInt).toNat + 1) ((0 : Int32)) ((16 : Int32)) z ht (Same.rf (z := z)) (by omega) (by omega) (by omega) (by omega)

set_option maxHeartbeats 2000000 in
theorem s_X5_wipe_c52  (z : St) (P : St → Prop) (ht : TX z)  (hk : ∀ (z2 : St), TX z2 → Same [5202, 5203] [53, 54] z z2 → (True) → P z2) : wp_X5_wipe_c52  z P := by
  unfold wp_X5_wipe_c52
  have g_1 : (0 : Int32).toInt = 0 := by decide
  refine s_J7_fill_53178_53 ((0 : Int32)) z _ ht  (fun z1 tz1 o_3 hp_2 => ?_)
  have oz1 : Same [5202, 5203] [53, 54] z z1 := (Same.rf (z := z)).tr o_3 (by decide) (by decide)
  have g_4 : (0 : Int32).toInt = 0 := by decide
  refine s_J7_fill_53178_54 ((0 : Int32)) z1 _ tz1  (fun z3 tz3 o_6 hp_5 => ?_)
  have oz3 : Same [5202, 5203] [53, 54] z z3 := oz1.tr o_6 (by decide) (by decide)
  intro z5 ez5
  have tz5 : TX z5 := by rw [ez5]; exact Ty_wI tz3 trivial
  have oz5 : Same [5202, 5203] [53, 54] z z5 := oz3.i (by decide) ez5
  intro z6 ez6
  have tz6 : TX z6 := by rw [ez6]; exact Ty_wI tz5 trivial
  have oz6 : Same [5202, 5203] [53, 54] z z6 := oz5.i (by decide) ez6
  exact hk z6 tz6 oz6 trivial

-- THE READER: if the token at hand begins with a digit, it is one of digits
def DG (z : St) : Prop := (48 ≤ (gF z 38 (gI z 3702).toNatClampNeg).toInt ∧ (gF z 38 (gI z 3702).toNatClampNeg).toInt ≤ 57) → ∀ j : Nat, (gI z 3702).toInt ≤ j → (j : Int) < (gI z 3703).toInt → 48 ≤ (gF z 38 j).toInt ∧ (gF z 38 j).toInt ≤ 57
theorem DG_same {I F : List Nat} {z z1 : St} (h : DG z) (s : Same I F z z1) (h1 : 3702 ∉ I) (h2 : 3703 ∉ I) (h3 : 38 ∉ F) : DG z1 := by
  unfold DG
  rw [s.1 3702 h1, s.1 3703 h2, s.2 38 h3]
  exact h
theorem s_X4_kindOf (b1 : Int32) (z : St) (P : Int32 → Prop) (ht : TX z) (hk : ∀ r : Int32, ((r = 1 ∧ 97 ≤ b1.toInt ∧ b1.toInt ≤ 122) ∨ (r = 2 ∧ 48 ≤ b1.toInt ∧ b1.toInt ≤ 57) ∨ (r = 0 ∧ (b1.toInt < 48 ∨ 57 < b1.toInt) ∧ (b1.toInt < 97 ∨ 122 < b1.toInt))) → P r) : wp_X4_kindOf b1 z P := by
  unfold wp_X4_kindOf
  intro K hK
  have e48 : (48 : Int32).toInt = 48 := rfl
  have e57 : (57 : Int32).toInt = 57 := rfl
  have e97 : (97 : Int32).toInt = 97 := rfl
  have e122 : (122 : Int32).toInt = 122 := rfl
  have hK2 : (b1.toInt < 97 ∨ 122 < b1.toInt) → K := fun hl => hK ⟨fun c => hk 0 (Or.inr (Or.inr ⟨rfl, Or.inl (by have := i_lt rfl e48 c; omega), hl⟩)), fun c => ⟨fun c2 => hk 0 (Or.inr (Or.inr ⟨rfl, Or.inr (by have := i_lt e57 rfl c2; omega), hl⟩)), fun c2 => hk 2 (Or.inr (Or.inl ⟨rfl, by have := i_nlt rfl e48 c; have := i_nlt e57 rfl c2; omega⟩))⟩⟩
  refine ⟨fun c => hK2 (Or.inl (i_lt rfl e97 c)), fun c => ⟨fun c2 => hK2 (Or.inr (i_lt e122 rfl c2)), fun c2 => hk 1 (Or.inl ⟨rfl, ?_⟩)⟩⟩
  have := i_nlt rfl e97 c
  have := i_nlt e122 rfl c2
  omega

theorem s_X4_next (z : St) (P : St → Prop) (ht : TX z) (h0 : (gI z 3703).toInt ≤ (gI z 3701).toInt) (hk : ∀ z2 : St, TX z2 → Same [3702, 3703] [] z z2 → DG z2 → ((gI z2 3702).toInt ≤ (gI z2 3703).toInt ∧ (gI z2 3703).toInt ≤ (gI z 3701).toInt) → P z2) : wp_X4_next z P := by
  unfold wp_X4_next
  have f1 : 0 ≤ (gI z 3701).toInt ∧ (gI z 3701).toInt ≤ 300 := ht.1 3701
  have f3 : 0 ≤ (gI z 3703).toInt ∧ (gI z 3703).toInt ≤ 300 := ht.1 3703
  have e1 : (1 : Int32).toInt = 1 := rfl
  intro K1 hK1
  have L1 : ∀ (n : Nat) (z2 : St), TX z2 → Same [3702, 3703] [] z z2 → (gI z2 3702).toInt ≤ (gI z 3701).toInt → ((gI z 3701).toInt - (gI z2 3702).toInt).toNat < n → K1 z2 := by
    intro n
    induction n with
    | zero => intro z2 t2 s2 h2 hm; omega
    | succ n ih =>
      intro z2 t2 s2 h2 hm
      refine hK1 z2 ?_
      intro K3 hK3
      have g1 : (gI z2 3701).toInt = (gI z 3701).toInt := s2.fi 3701 (by decide)
      have g2 : 0 ≤ (gI z2 3702).toInt ∧ (gI z2 3702).toInt ≤ 300 := t2.1 3702
      have k3 : K3 := by
        refine hK3 ?_
        intro z4 e4
        have t4 : TX z4 := by rw [e4]; exact Ty_wI t2 g2
        have s4 : Same [3702, 3703] [] z z4 := s2.i (by decide) e4
        have a2 : (gI z4 3702).toInt = (gI z2 3702).toInt := by rw [e4]; rfl
        have a3 : (gI z4 3703).toInt = (gI z2 3702).toInt := by rw [e4]; rfl
        have a1 : (gI z4 3701).toInt = (gI z 3701).toInt := s4.fi 3701 (by decide)
        refine ⟨fun c => ?_, fun c => ?_⟩
        · have c1 := i_lt rfl rfl c
          refine ⟨vin rfl (by omega) (by omega), ?_⟩
          refine s_X4_kindOf _ z4 _ t4 (fun r7 hr => ?_)
          intro K8 hK8
          have hcl : ((gI z4 3702).toNatClampNeg : Int) = (gI z4 3702).toInt := clampI (n := 300) (vin rfl (by omega) (by omega))
          have out : ∀ z9 : St, TX z9 → Same [3702, 3703] [] z z9 → (gI z9 3702) = (gI z4 3702) → (gI z4 3702).toInt < (gI z9 3703).toInt → (gI z9 3703).toInt ≤ (gI z 3701).toInt → (r7 = 2 → ∀ j : Nat, (gI z4 3702).toInt ≤ j → (j : Int) < (gI z9 3703).toInt → 48 ≤ (gF z 38 j).toInt ∧ (gF z 38 j).toInt ≤ 57) → P z9 := by
            intro z9 t9 s9 es h3 h4 hd
            refine hk z9 t9 s9 ?_ ⟨by rw [es]; omega, h4⟩
            intro hq j hj1 hj2
            rw [s9.2 38 (by decide)] at hq ⊢
            rw [es] at hq hj1
            have q38 : gF z4 38 = gF z 38 := s4.2 38 (by decide)
            rw [q38] at hr
            have r2 : r7 = 2 := by
              rcases hr with ⟨-, hh⟩ | ⟨hh, -⟩ | ⟨-, hh, -⟩
              · omega
              · exact hh
              · omega
            exact hd r2 j hj1 hj2
          have L8 : ∀ (n : Nat) (z9 : St), TX z9 → Same [3702, 3703] [] z z9 → (gI z9 3702) = (gI z4 3702) → (gI z4 3702).toInt < (gI z9 3703).toInt → (gI z9 3703).toInt ≤ (gI z 3701).toInt → (r7 = 2 → ∀ j : Nat, (gI z4 3702).toInt ≤ j → (j : Int) < (gI z9 3703).toInt → 48 ≤ (gF z 38 j).toInt ∧ (gF z 38 j).toInt ≤ 57) → ((gI z 3701).toInt - (gI z9 3703).toInt).toNat < n → K8 z9 := by
            intro n
            induction n with
            | zero => intro z9 t9 s9 es h3 h4 hd hm; omega
            | succ n ih8 =>
              intro z9 t9 s9 es h3 h4 hd hm
              refine hK8 z9 ?_
              have b1 : (gI z9 3701).toInt = (gI z 3701).toInt := s9.fi 3701 (by decide)
              refine ⟨fun _ => out z9 t9 s9 es h3 h4 hd, fun _ => ⟨fun _ => out z9 t9 s9 es h3 h4 hd, fun c3 => ?_⟩⟩
              have c4 := i_nle rfl rfl c3
              have hv : vp_in (gI z9 3703) 300 := vin rfl (by omega) (by omega)
              refine ⟨hv, ?_⟩
              have hcl9 := clampI hv
              refine s_X4_kindOf _ z9 _ t9 (fun r13 hr13 => ?_)
              refine ⟨fun _ => out z9 t9 s9 es h3 h4 hd, fun er => ?_⟩
              intro z15 e15
              have i15 : (gI z15 3703).toInt = (gI z9 3703).toInt + 1 := by
                rw [e15]
                show ((gI z9 3703) + (1 : Int32)).toInt = _
                exact a_add rfl e1 (by omega) (by omega)
              have t15 : TX z15 := by
                rw [e15]
                exact Ty_wI t9 (show 0 ≤ ((gI z9 3703) + (1 : Int32)).toInt ∧ ((gI z9 3703) + (1 : Int32)).toInt ≤ 300 from by rw [a_add rfl e1 (by omega) (by omega)]; omega)
              have es15 : gI z15 3702 = gI z4 3702 := by rw [e15]; exact es
              refine ih8 z15 t15 (s9.i (by decide) e15) es15 (by omega) (by omega) ?_ (by omega)
              intro r2 j hj1 hj2
              by_cases hj : (j : Int) < (gI z9 3703).toInt
              · exact hd r2 j hj1 hj
              · have ej : j = (gI z9 3703).toNatClampNeg := by omega
                rw [s9.2 38 (by decide)] at hr13
                rw [ej]
                rcases hr13 with ⟨hh, -⟩ | ⟨-, hh⟩ | ⟨hh, -⟩
                · rw [er, r2] at hh; exact absurd hh (by decide)
                · exact hh
                · rw [er, r2] at hh; exact absurd hh (by decide)
          intro z16 e16
          have i16 : (gI z16 3703).toInt = (gI z4 3703).toInt + 1 := by
            rw [e16]
            show ((gI z4 3703) + (1 : Int32)).toInt = _
            exact a_add rfl e1 (by omega) (by omega)
          have t16 : TX z16 := by
            rw [e16]
            exact Ty_wI t4 (show 0 ≤ ((gI z4 3703) + (1 : Int32)).toInt ∧ ((gI z4 3703) + (1 : Int32)).toInt ≤ 300 from by rw [a_add rfl e1 (by omega) (by omega)]; omega)
          have es16 : gI z16 3702 = gI z4 3702 := by rw [e16]; rfl
          refine L8 (((gI z 3701).toInt - (gI z16 3703).toInt).toNat + 1) z16 t16 (s4.i (by decide) e16) es16 (by omega) (by omega) ?_ (by omega)
          intro r2 j hj1 hj2
          have ej : j = (gI z4 3702).toNatClampNeg := by omega
          rw [ej]
          rw [s4.2 38 (by decide)] at hr
          rcases hr with ⟨hh, -⟩ | ⟨-, hh⟩ | ⟨hh, -⟩
          · rw [r2] at hh; exact absurd hh (by decide)
          · exact hh
          · rw [r2] at hh; exact absurd hh (by decide)
        · have c1 := i_nlt rfl rfl c
          refine hk z4 t4 s4 ?_ ⟨by omega, by omega⟩
          intro _ j hj1 hj2
          omega
      refine ⟨fun _ => k3, fun c => ?_⟩
      have c1 := i_nle rfl rfl c
      refine ⟨vin rfl (by omega) (by omega), ⟨fun _ => k3, fun _ => ?_⟩⟩
      intro z19 e19
      have i19 : (gI z19 3702).toInt = (gI z2 3702).toInt + 1 := by
        rw [e19]
        show ((gI z2 3702) + (1 : Int32)).toInt = _
        exact a_add rfl e1 (by omega) (by omega)
      have t19 : TX z19 := by
        rw [e19]
        exact Ty_wI t2 (show 0 ≤ ((gI z2 3702) + (1 : Int32)).toInt ∧ ((gI z2 3702) + (1 : Int32)).toInt ≤ 300 from by rw [a_add rfl e1 (by omega) (by omega)]; omega)
      exact ih z19 t19 (s2.i (by decide) e19) (by omega) (by omega)
  intro z20 e20
  have i20 : (gI z20 3702).toInt = (gI z 3703).toInt := by rw [e20]; rfl
  have t20 : TX z20 := by rw [e20]; exact Ty_wI ht f3
  exact L1 (((gI z 3701).toInt - (gI z20 3702).toInt).toNat + 1) z20 t20 (Same.rf.i (by decide) e20) (by omega) (by omega)

set_option maxHeartbeats 2000000 in
theorem s_X4_take_s0  (z : St) (P : Int32 → St → Prop) (ht : TX z) (hrx : DG z) (h0 : (gI z 3702).toInt ≤ (gI z 3703).toInt) (h1 : (gI z 3703).toInt ≤ (gI z 3701).toInt) (hk : ∀ (r : Int32) (z2 : St), TX z2 → Same [3702, 3703] [] z z2 → DG z2 → ((r = 1 ∧ ((gI z2 3702).toInt ≤ (gI z2 3703).toInt ∧ (gI z2 3703).toInt ≤ (gI z 3701).toInt)) ∨ (r = 0 ∧ ((gI z2 3702).toInt ≤ (gI z2 3703).toInt ∧ (gI z2 3703).toInt ≤ (gI z 3701).toInt))) → P r z2) : wp_X4_take_s0  z P := by
  unfold wp_X4_take_s0
  refine ⟨fun c3 => ?_, fun c3 => ?_⟩
  · skip
    have f_1 : 0 ≤ (gI z 3703).toInt ∧ (gI z 3703).toInt ≤ 300 := ht.1 3703
    have f_2 : 0 ≤ (gI z 3702).toInt ∧ (gI z 3702).toInt ≤ 300 := ht.1 3702
    have i_3 := i_eq (a_sub rfl rfl (by omega) (by omega)) (show (5 : Int32).toInt = 5 by decide) c3
    intro K5 hK_4
    have L_5 : ∀ (n : Nat) (v4 : Int32), (0 ≤ v4.toInt) → (v4.toInt ≤ 5) → ((gI z 3703).toInt - (gI z 3702).toInt = 5) → (5 - v4.toInt).toNat < n → K5 v4 := by
      intro n
      induction n with
      | zero => intro v4 w_6 w_7 w_8 m_10; omega
      | succ n ih_9 =>
        intro v4 w_6 w_7 w_8 m_10
        refine hK_4 v4 ?_
        refine ⟨fun c8 => ?_, fun c8 => ?_⟩
        · skip
          have i_11 := i_le (show (5 : Int32).toInt = 5 by decide) rfl c8
          have f_12 : 0 ≤ (gI z 3701).toInt ∧ (gI z 3701).toInt ≤ 300 := ht.1 3701
          refine s_X4_next  z _ ht (by omega) (fun z9 tz9 o_14 xz9 hp_13 => ?_)
          have oz9 : Same [3702, 3703] [] z z9 := (Same.rf (z := z)).tr o_14 (by decide) (by decide)
          have f_15 : 0 ≤ (gI z9 3702).toInt ∧ (gI z9 3702).toInt ≤ 300 := tz9.1 3702
          have f_16 : 0 ≤ (gI z9 3703).toInt ∧ (gI z9 3703).toInt ≤ 300 := tz9.1 3703
          have g_17 : (1 : Int32).toInt = 1 := by decide
          exact hk ((1 : Int32)) z9 tz9 oz9 xz9 (Or.inl ⟨rfl, (by omega)⟩)
        · skip
          have i_18 := i_nle (show (5 : Int32).toInt = 5 by decide) rfl c8
          refine ⟨vin (a_add rfl rfl (by omega) (by omega)) (by omega) (by omega), ?_⟩
          refine ⟨vin rfl (by omega) (by omega), ?_⟩
          refine ⟨fun c13 => ?_, fun c13 => ?_⟩
          · skip
            have i_19 := i_eq rfl rfl c13
            intro x14 ex14
            have ix14 : x14.toInt = (v4.toInt + (1)) := by rw [ex14]; exact (a_add rfl (show (1 : Int32).toInt = 1 by decide) (by omega) (by omega))
            exact ih_9 x14 (by omega) (by omega) (by omega) (by omega)
          · skip
            have i_20 := i_ne rfl rfl c13
            have g_21 : (0 : Int32).toInt = 0 := by decide
            have f_22 : 0 ≤ (gI z 3701).toInt ∧ (gI z 3701).toInt ≤ 300 := ht.1 3701
            exact hk ((0 : Int32)) z ht (Same.rf (z := z)) hrx (Or.inr ⟨rfl, (by omega)⟩)
    have g_23 : (0 : Int32).toInt = 0 := by decide
    exact L_5 ((5 - (0 : Int32).toInt).toNat + 1) ((0 : Int32)) (by omega) (by omega) (by omega) (by omega)
  · skip
    have f_24 : 0 ≤ (gI z 3703).toInt ∧ (gI z 3703).toInt ≤ 300 := ht.1 3703
    have f_25 : 0 ≤ (gI z 3702).toInt ∧ (gI z 3702).toInt ≤ 300 := ht.1 3702
    have i_26 := i_ne (a_sub rfl rfl (by omega) (by omega)) (show (5 : Int32).toInt = 5 by decide) c3
    have g_27 : (0 : Int32).toInt = 0 := by decide
    have f_28 : 0 ≤ (gI z 3701).toInt ∧ (gI z 3701).toInt ≤ 300 := ht.1 3701
    exact hk ((0 : Int32)) z ht (Same.rf (z := z)) hrx (Or.inr ⟨rfl, (by omega)⟩)

set_option maxHeartbeats 2000000 in
theorem s_X4_take_s1  (z : St) (P : Int32 → St → Prop) (ht : TX z) (hrx : DG z) (h0 : (gI z 3702).toInt ≤ (gI z 3703).toInt) (h1 : (gI z 3703).toInt ≤ (gI z 3701).toInt) (hk : ∀ (r : Int32) (z2 : St), TX z2 → Same [3702, 3703] [] z z2 → DG z2 → ((r = 1 ∧ ((gI z2 3702).toInt ≤ (gI z2 3703).toInt ∧ (gI z2 3703).toInt ≤ (gI z 3701).toInt)) ∨ (r = 0 ∧ ((gI z2 3702).toInt ≤ (gI z2 3703).toInt ∧ (gI z2 3703).toInt ≤ (gI z 3701).toInt))) → P r z2) : wp_X4_take_s1  z P := by
  unfold wp_X4_take_s1
  refine ⟨fun c3 => ?_, fun c3 => ?_⟩
  · skip
    have f_1 : 0 ≤ (gI z 3703).toInt ∧ (gI z 3703).toInt ≤ 300 := ht.1 3703
    have f_2 : 0 ≤ (gI z 3702).toInt ∧ (gI z 3702).toInt ≤ 300 := ht.1 3702
    have i_3 := i_eq (a_sub rfl rfl (by omega) (by omega)) (show (4 : Int32).toInt = 4 by decide) c3
    intro K5 hK_4
    have L_5 : ∀ (n : Nat) (v4 : Int32), (0 ≤ v4.toInt) → (v4.toInt ≤ 4) → ((gI z 3703).toInt - (gI z 3702).toInt = 4) → (4 - v4.toInt).toNat < n → K5 v4 := by
      intro n
      induction n with
      | zero => intro v4 w_6 w_7 w_8 m_10; omega
      | succ n ih_9 =>
        intro v4 w_6 w_7 w_8 m_10
        refine hK_4 v4 ?_
        refine ⟨fun c8 => ?_, fun c8 => ?_⟩
        · skip
          have i_11 := i_le (show (4 : Int32).toInt = 4 by decide) rfl c8
          have f_12 : 0 ≤ (gI z 3701).toInt ∧ (gI z 3701).toInt ≤ 300 := ht.1 3701
          refine s_X4_next  z _ ht (by omega) (fun z9 tz9 o_14 xz9 hp_13 => ?_)
          have oz9 : Same [3702, 3703] [] z z9 := (Same.rf (z := z)).tr o_14 (by decide) (by decide)
          have f_15 : 0 ≤ (gI z9 3702).toInt ∧ (gI z9 3702).toInt ≤ 300 := tz9.1 3702
          have f_16 : 0 ≤ (gI z9 3703).toInt ∧ (gI z9 3703).toInt ≤ 300 := tz9.1 3703
          have g_17 : (1 : Int32).toInt = 1 := by decide
          exact hk ((1 : Int32)) z9 tz9 oz9 xz9 (Or.inl ⟨rfl, (by omega)⟩)
        · skip
          have i_18 := i_nle (show (4 : Int32).toInt = 4 by decide) rfl c8
          refine ⟨vin (a_add rfl rfl (by omega) (by omega)) (by omega) (by omega), ?_⟩
          refine ⟨vin rfl (by omega) (by omega), ?_⟩
          refine ⟨fun c13 => ?_, fun c13 => ?_⟩
          · skip
            have i_19 := i_eq rfl rfl c13
            intro x14 ex14
            have ix14 : x14.toInt = (v4.toInt + (1)) := by rw [ex14]; exact (a_add rfl (show (1 : Int32).toInt = 1 by decide) (by omega) (by omega))
            exact ih_9 x14 (by omega) (by omega) (by omega) (by omega)
          · skip
            have i_20 := i_ne rfl rfl c13
            have g_21 : (0 : Int32).toInt = 0 := by decide
            have f_22 : 0 ≤ (gI z 3701).toInt ∧ (gI z 3701).toInt ≤ 300 := ht.1 3701
            exact hk ((0 : Int32)) z ht (Same.rf (z := z)) hrx (Or.inr ⟨rfl, (by omega)⟩)
    have g_23 : (0 : Int32).toInt = 0 := by decide
    exact L_5 ((4 - (0 : Int32).toInt).toNat + 1) ((0 : Int32)) (by omega) (by omega) (by omega) (by omega)
  · skip
    have f_24 : 0 ≤ (gI z 3703).toInt ∧ (gI z 3703).toInt ≤ 300 := ht.1 3703
    have f_25 : 0 ≤ (gI z 3702).toInt ∧ (gI z 3702).toInt ≤ 300 := ht.1 3702
    have i_26 := i_ne (a_sub rfl rfl (by omega) (by omega)) (show (4 : Int32).toInt = 4 by decide) c3
    have g_27 : (0 : Int32).toInt = 0 := by decide
    have f_28 : 0 ≤ (gI z 3701).toInt ∧ (gI z 3701).toInt ≤ 300 := ht.1 3701
    exact hk ((0 : Int32)) z ht (Same.rf (z := z)) hrx (Or.inr ⟨rfl, (by omega)⟩)

set_option maxHeartbeats 2000000 in
theorem s_X4_take_s2  (z : St) (P : Int32 → St → Prop) (ht : TX z) (hrx : DG z) (h0 : (gI z 3702).toInt ≤ (gI z 3703).toInt) (h1 : (gI z 3703).toInt ≤ (gI z 3701).toInt) (hk : ∀ (r : Int32) (z2 : St), TX z2 → Same [3702, 3703] [] z z2 → DG z2 → ((r = 1 ∧ ((gI z2 3702).toInt ≤ (gI z2 3703).toInt ∧ (gI z2 3703).toInt ≤ (gI z 3701).toInt)) ∨ (r = 0 ∧ ((gI z2 3702).toInt ≤ (gI z2 3703).toInt ∧ (gI z2 3703).toInt ≤ (gI z 3701).toInt))) → P r z2) : wp_X4_take_s2  z P := by
  unfold wp_X4_take_s2
  refine ⟨fun c3 => ?_, fun c3 => ?_⟩
  · skip
    have f_1 : 0 ≤ (gI z 3703).toInt ∧ (gI z 3703).toInt ≤ 300 := ht.1 3703
    have f_2 : 0 ≤ (gI z 3702).toInt ∧ (gI z 3702).toInt ≤ 300 := ht.1 3702
    have i_3 := i_eq (a_sub rfl rfl (by omega) (by omega)) (show (3 : Int32).toInt = 3 by decide) c3
    intro K5 hK_4
    have L_5 : ∀ (n : Nat) (v4 : Int32), (0 ≤ v4.toInt) → (v4.toInt ≤ 3) → ((gI z 3703).toInt - (gI z 3702).toInt = 3) → (3 - v4.toInt).toNat < n → K5 v4 := by
      intro n
      induction n with
      | zero => intro v4 w_6 w_7 w_8 m_10; omega
      | succ n ih_9 =>
        intro v4 w_6 w_7 w_8 m_10
        refine hK_4 v4 ?_
        refine ⟨fun c8 => ?_, fun c8 => ?_⟩
        · skip
          have i_11 := i_le (show (3 : Int32).toInt = 3 by decide) rfl c8
          have f_12 : 0 ≤ (gI z 3701).toInt ∧ (gI z 3701).toInt ≤ 300 := ht.1 3701
          refine s_X4_next  z _ ht (by omega) (fun z9 tz9 o_14 xz9 hp_13 => ?_)
          have oz9 : Same [3702, 3703] [] z z9 := (Same.rf (z := z)).tr o_14 (by decide) (by decide)
          have f_15 : 0 ≤ (gI z9 3702).toInt ∧ (gI z9 3702).toInt ≤ 300 := tz9.1 3702
          have f_16 : 0 ≤ (gI z9 3703).toInt ∧ (gI z9 3703).toInt ≤ 300 := tz9.1 3703
          have g_17 : (1 : Int32).toInt = 1 := by decide
          exact hk ((1 : Int32)) z9 tz9 oz9 xz9 (Or.inl ⟨rfl, (by omega)⟩)
        · skip
          have i_18 := i_nle (show (3 : Int32).toInt = 3 by decide) rfl c8
          refine ⟨vin (a_add rfl rfl (by omega) (by omega)) (by omega) (by omega), ?_⟩
          refine ⟨vin rfl (by omega) (by omega), ?_⟩
          refine ⟨fun c13 => ?_, fun c13 => ?_⟩
          · skip
            have i_19 := i_eq rfl rfl c13
            intro x14 ex14
            have ix14 : x14.toInt = (v4.toInt + (1)) := by rw [ex14]; exact (a_add rfl (show (1 : Int32).toInt = 1 by decide) (by omega) (by omega))
            exact ih_9 x14 (by omega) (by omega) (by omega) (by omega)
          · skip
            have i_20 := i_ne rfl rfl c13
            have g_21 : (0 : Int32).toInt = 0 := by decide
            have f_22 : 0 ≤ (gI z 3701).toInt ∧ (gI z 3701).toInt ≤ 300 := ht.1 3701
            exact hk ((0 : Int32)) z ht (Same.rf (z := z)) hrx (Or.inr ⟨rfl, (by omega)⟩)
    have g_23 : (0 : Int32).toInt = 0 := by decide
    exact L_5 ((3 - (0 : Int32).toInt).toNat + 1) ((0 : Int32)) (by omega) (by omega) (by omega) (by omega)
  · skip
    have f_24 : 0 ≤ (gI z 3703).toInt ∧ (gI z 3703).toInt ≤ 300 := ht.1 3703
    have f_25 : 0 ≤ (gI z 3702).toInt ∧ (gI z 3702).toInt ≤ 300 := ht.1 3702
    have i_26 := i_ne (a_sub rfl rfl (by omega) (by omega)) (show (3 : Int32).toInt = 3 by decide) c3
    have g_27 : (0 : Int32).toInt = 0 := by decide
    have f_28 : 0 ≤ (gI z 3701).toInt ∧ (gI z 3701).toInt ≤ 300 := ht.1 3701
    exact hk ((0 : Int32)) z ht (Same.rf (z := z)) hrx (Or.inr ⟨rfl, (by omega)⟩)

theorem s_X4_number (z : St) (P : Int32 → Prop) (ht : TX z) (hdg : DG z) (h0 : (gI z 3703).toInt ≤ (gI z 3701).toInt) (hk : ∀ r : Int32, r.toInt = -1 ∨ (0 ≤ r.toInt ∧ r.toInt ≤ 100000) → P r) : wp_X4_number z P := by
  unfold wp_X4_number
  have f1 : 0 ≤ (gI z 3701).toInt ∧ (gI z 3701).toInt ≤ 300 := ht.1 3701
  have f2 : 0 ≤ (gI z 3702).toInt ∧ (gI z 3702).toInt ≤ 300 := ht.1 3702
  have f3 : 0 ≤ (gI z 3703).toInt ∧ (gI z 3703).toInt ≤ 300 := ht.1 3703
  refine ⟨fun c => hk _ (Or.inl rfl), fun c => ⟨vin rfl (by omega) (by have := i_nle rfl rfl c; omega), ?_⟩⟩
  have c1 := i_nle rfl rfl c
  refine s_X4_kindOf _ z _ ht (fun r hr => ?_)
  refine ⟨fun e => ?_, fun e => hk _ (Or.inl rfl)⟩
  have hd : 48 ≤ (gF z 38 (gI z 3702).toNatClampNeg).toInt ∧ (gF z 38 (gI z 3702).toNatClampNeg).toInt ≤ 57 := by
    rcases hr with ⟨q, -⟩ | ⟨q, hq⟩ | ⟨q, -⟩
    · rw [e] at q; exact absurd q (by decide)
    · exact hq
    · rw [e] at q; exact absurd q (by decide)
  intro K hK
  have L : ∀ (n : Nat) (v5 v6 : Int32), 0 ≤ v5.toInt → v5.toInt ≤ 100000 → (gI z 3702).toInt ≤ v6.toInt → (300 - v6.toInt).toNat < n → K v5 v6 := by
    intro n
    induction n with
    | zero => intro v5 v6 h1 h2 h3 h4; omega
    | succ n ih =>
      intro v5 v6 h1 h2 h3 h4
      refine hK v5 v6 ⟨fun c2 => hk v5 (Or.inr ⟨h1, h2⟩), fun c2 => ?_⟩
      have c3 := i_nle rfl rfl c2
      have hv : vp_in v6 300 := vin rfl (by omega) (by omega)
      refine ⟨hv, ?_⟩
      have hc := clampI hv
      have hj := hdg hd v6.toNatClampNeg (by omega) (by omega)
      have e10 : (10 : Int32).toInt = 10 := rfl
      have e48 : (48 : Int32).toInt = 48 := rfl
      have eh : (100000 : Int32).toInt = 100000 := rfl
      intro x9 ex9
      have i9 := a_min eh (a_sub (a_add (a_mul (x := v5) rfl e10 (by omega) (by omega)) (y := gF z 38 v6.toNatClampNeg) rfl (by omega) (by omega)) e48 (by omega) (by omega)) ex9
      intro x10 ex10
      have i10 : x10.toInt = v6.toInt + 1 := by rw [ex10]; exact a_add rfl (show (1 : Int32).toInt = 1 by decide) (by omega) (by omega)
      exact ih x9 x10 (by omega) (by omega) (by omega) (by omega)
  intro x11 ex11
  have i11 : x11.toInt = (gI z 3702).toInt := by rw [ex11]
  exact L ((300 - x11.toInt).toNat + 1) 0 x11 (by decide) (by decide) (by omega) (by omega)

set_option maxHeartbeats 2000000 in
theorem s_X4_takeNumber (b1 : Int32) (z : St) (P : Int32 → St → Prop) (ht : TX z) (hrx : DG z) (h0 : (gI z 3702).toInt ≤ (gI z 3703).toInt) (h1 : (gI z 3703).toInt ≤ (gI z 3701).toInt) (hk : ∀ (r : Int32) (z2 : St), TX z2 → Same [3702, 3703] [] z z2 → DG z2 → ((gI z2 3702).toInt ≤ (gI z2 3703).toInt ∧ (gI z2 3703).toInt ≤ (gI z 3701).toInt ∧ (r.toInt = -1 ∨ (0 ≤ r.toInt ∧ r.toInt ≤ b1.toInt))) → P r z2) : wp_X4_takeNumber b1 z P := by
  unfold wp_X4_takeNumber
  have f_1 : 0 ≤ (gI z 3703).toInt ∧ (gI z 3703).toInt ≤ 300 := ht.1 3703
  have f_2 : 0 ≤ (gI z 3701).toInt ∧ (gI z 3701).toInt ≤ 300 := ht.1 3701
  refine s_X4_number  z _ ht hrx (by omega) (fun r2 hp_3 => ?_)
  refine ⟨fun c3 => ?_, fun c3 => ?_⟩
  · skip
    have i_4 := i_eq rfl (show (-1 : Int32).toInt = -1 by decide) c3
    have g_5 : (-1 : Int32).toInt = -1 := by decide
    have f_6 : 0 ≤ (gI z 3702).toInt ∧ (gI z 3702).toInt ≤ 300 := ht.1 3702
    exact hk ((-1 : Int32)) z ht (Same.rf (z := z)) hrx (by omega)
  · skip
    have i_7 := i_ne rfl (show (-1 : Int32).toInt = -1 by decide) c3
    refine ⟨fun c4 => ?_, fun c4 => ?_⟩
    · skip
      have i_8 := i_le rfl rfl c4
      refine s_X4_next  z _ ht (by omega) (fun z5 tz5 o_10 xz5 hp_9 => ?_)
      have oz5 : Same [3702, 3703] [] z z5 := (Same.rf (z := z)).tr o_10 (by decide) (by decide)
      have f_11 : 0 ≤ (gI z5 3702).toInt ∧ (gI z5 3702).toInt ≤ 300 := tz5.1 3702
      have f_12 : 0 ≤ (gI z5 3703).toInt ∧ (gI z5 3703).toInt ≤ 300 := tz5.1 3703
      exact hk r2 z5 tz5 oz5 xz5 (by omega)
    · skip
      have i_13 := i_nle rfl rfl c4
      have g_14 : (-1 : Int32).toInt = -1 := by decide
      have f_15 : 0 ≤ (gI z 3702).toInt ∧ (gI z 3702).toInt ≤ 300 := ht.1 3702
      exact hk ((-1 : Int32)) z ht (Same.rf (z := z)) hrx (by omega)

set_option maxHeartbeats 2000000 in
theorem s_X4_take_s5  (z : St) (P : Int32 → St → Prop) (ht : TX z) (hrx : DG z) (h0 : (gI z 3702).toInt ≤ (gI z 3703).toInt) (h1 : (gI z 3703).toInt ≤ (gI z 3701).toInt) (hk : ∀ (r : Int32) (z2 : St), TX z2 → Same [3702, 3703] [] z z2 → DG z2 → ((r = 1 ∧ ((gI z2 3702).toInt ≤ (gI z2 3703).toInt ∧ (gI z2 3703).toInt ≤ (gI z 3701).toInt)) ∨ (r = 0 ∧ ((gI z2 3702).toInt ≤ (gI z2 3703).toInt ∧ (gI z2 3703).toInt ≤ (gI z 3701).toInt))) → P r z2) : wp_X4_take_s5  z P := by
  unfold wp_X4_take_s5
  refine ⟨fun c3 => ?_, fun c3 => ?_⟩
  · skip
    have f_1 : 0 ≤ (gI z 3703).toInt ∧ (gI z 3703).toInt ≤ 300 := ht.1 3703
    have f_2 : 0 ≤ (gI z 3702).toInt ∧ (gI z 3702).toInt ≤ 300 := ht.1 3702
    have i_3 := i_eq (a_sub rfl rfl (by omega) (by omega)) (show (6 : Int32).toInt = 6 by decide) c3
    intro K5 hK_4
    have L_5 : ∀ (n : Nat) (v4 : Int32), (0 ≤ v4.toInt) → (v4.toInt ≤ 6) → ((gI z 3703).toInt - (gI z 3702).toInt = 6) → (6 - v4.toInt).toNat < n → K5 v4 := by
      intro n
      induction n with
      | zero => intro v4 w_6 w_7 w_8 m_10; omega
      | succ n ih_9 =>
        intro v4 w_6 w_7 w_8 m_10
        refine hK_4 v4 ?_
        refine ⟨fun c8 => ?_, fun c8 => ?_⟩
        · skip
          have i_11 := i_le (show (6 : Int32).toInt = 6 by decide) rfl c8
          have f_12 : 0 ≤ (gI z 3701).toInt ∧ (gI z 3701).toInt ≤ 300 := ht.1 3701
          refine s_X4_next  z _ ht (by omega) (fun z9 tz9 o_14 xz9 hp_13 => ?_)
          have oz9 : Same [3702, 3703] [] z z9 := (Same.rf (z := z)).tr o_14 (by decide) (by decide)
          have f_15 : 0 ≤ (gI z9 3702).toInt ∧ (gI z9 3702).toInt ≤ 300 := tz9.1 3702
          have f_16 : 0 ≤ (gI z9 3703).toInt ∧ (gI z9 3703).toInt ≤ 300 := tz9.1 3703
          have g_17 : (1 : Int32).toInt = 1 := by decide
          exact hk ((1 : Int32)) z9 tz9 oz9 xz9 (Or.inl ⟨rfl, (by omega)⟩)
        · skip
          have i_18 := i_nle (show (6 : Int32).toInt = 6 by decide) rfl c8
          refine ⟨vin (a_add rfl rfl (by omega) (by omega)) (by omega) (by omega), ?_⟩
          refine ⟨vin rfl (by omega) (by omega), ?_⟩
          refine ⟨fun c13 => ?_, fun c13 => ?_⟩
          · skip
            have i_19 := i_eq rfl rfl c13
            intro x14 ex14
            have ix14 : x14.toInt = (v4.toInt + (1)) := by rw [ex14]; exact (a_add rfl (show (1 : Int32).toInt = 1 by decide) (by omega) (by omega))
            exact ih_9 x14 (by omega) (by omega) (by omega) (by omega)
          · skip
            have i_20 := i_ne rfl rfl c13
            have g_21 : (0 : Int32).toInt = 0 := by decide
            have f_22 : 0 ≤ (gI z 3701).toInt ∧ (gI z 3701).toInt ≤ 300 := ht.1 3701
            exact hk ((0 : Int32)) z ht (Same.rf (z := z)) hrx (Or.inr ⟨rfl, (by omega)⟩)
    have g_23 : (0 : Int32).toInt = 0 := by decide
    exact L_5 ((6 - (0 : Int32).toInt).toNat + 1) ((0 : Int32)) (by omega) (by omega) (by omega) (by omega)
  · skip
    have f_24 : 0 ≤ (gI z 3703).toInt ∧ (gI z 3703).toInt ≤ 300 := ht.1 3703
    have f_25 : 0 ≤ (gI z 3702).toInt ∧ (gI z 3702).toInt ≤ 300 := ht.1 3702
    have i_26 := i_ne (a_sub rfl rfl (by omega) (by omega)) (show (6 : Int32).toInt = 6 by decide) c3
    have g_27 : (0 : Int32).toInt = 0 := by decide
    have f_28 : 0 ≤ (gI z 3701).toInt ∧ (gI z 3701).toInt ≤ 300 := ht.1 3701
    exact hk ((0 : Int32)) z ht (Same.rf (z := z)) hrx (Or.inr ⟨rfl, (by omega)⟩)

set_option maxHeartbeats 2000000 in
theorem s_X4_readBefore_52  (z : St) (P : Int32 → St → Prop) (ht : TX z) (hrx : DG z) (h0 : (gI z 3702).toInt ≤ (gI z 3703).toInt) (h1 : (gI z 3703).toInt ≤ (gI z 3701).toInt) (hk : ∀ (r : Int32) (z2 : St), TX z2 → Same [3702, 3703] [54] z z2 → DG z2 → ((r = 1 ∧ ((gI z2 3702).toInt ≤ (gI z2 3703).toInt ∧ (gI z2 3703).toInt ≤ (gI z 3701).toInt)) ∨ (r = 0 ∧ ((gI z2 3702).toInt ≤ (gI z2 3703).toInt ∧ (gI z2 3703).toInt ≤ (gI z 3701).toInt))) → P r z2) : wp_X4_readBefore_52  z P := by
  unfold wp_X4_readBefore_52
  have g_1 : (15 : Int32).toInt = 15 := by decide
  have f_2 : 0 ≤ (gI z 3702).toInt ∧ (gI z 3702).toInt ≤ 300 := ht.1 3702
  have f_3 : 0 ≤ (gI z 3703).toInt ∧ (gI z 3703).toInt ≤ 300 := ht.1 3703
  have f_4 : 0 ≤ (gI z 3701).toInt ∧ (gI z 3701).toInt ≤ 300 := ht.1 3701
  refine s_X4_takeNumber ((15 : Int32)) z _ ht hrx (by omega) (by omega) (fun r2 z1 tz1 o_6 xz1 hp_5 => ?_)
  have oz1 : Same [3702, 3703] [54] z z1 := (Same.rf (z := z)).tr o_6 (by decide) (by decide)
  have f_7 : 0 ≤ (gI z1 3702).toInt ∧ (gI z1 3702).toInt ≤ 300 := tz1.1 3702
  have f_8 : 0 ≤ (gI z1 3703).toInt ∧ (gI z1 3703).toInt ≤ 300 := tz1.1 3703
  refine ⟨fun c3 => ?_, fun c3 => ?_⟩
  · skip
    have i_9 := i_eq rfl (show (-1 : Int32).toInt = -1 by decide) c3
    have g_10 : (0 : Int32).toInt = 0 := by decide
    exact hk ((0 : Int32)) z1 tz1 oz1 xz1 (Or.inr ⟨rfl, (by omega)⟩)
  · skip
    have i_11 := i_ne rfl (show (-1 : Int32).toInt = -1 by decide) c3
    have f_12 : 0 ≤ (gI z1 3701).toInt ∧ (gI z1 3701).toInt ≤ 300 := tz1.1 3701
    have q_13 := (o_6.fi 3701 (by decide))
    refine s_X4_take_s5  z1 _ tz1 xz1 (by omega) (by omega) (fun r5 z4 tz4 o_15 xz4 hp_14 => ?_)
    have oz4 : Same [3702, 3703] [54] z z4 := oz1.tr o_15 (by decide) (by decide)
    rcases hp_14 with ⟨er5, hp_14⟩ | ⟨er5, hp_14⟩
    · subst er5
      have f_16 : 0 ≤ (gI z4 3702).toInt ∧ (gI z4 3702).toInt ≤ 300 := tz4.1 3702
      have f_17 : 0 ≤ (gI z4 3703).toInt ∧ (gI z4 3703).toInt ≤ 300 := tz4.1 3703
      refine ⟨fun hc => absurd hc (by decide), fun _ => ?_⟩
      have f_18 : 0 ≤ (gI z4 3701).toInt ∧ (gI z4 3701).toInt ≤ 300 := tz4.1 3701
      have q_19 := ((o_15.fi 3701 (by decide))).trans (o_6.fi 3701 (by decide))
      refine s_X4_number  z4 _ tz4 xz4 (by omega) (fun r8 hp_20 => ?_)
      refine ⟨fun c9 => ?_, fun c9 => ?_⟩
      · skip
        have i_21 := i_ne rfl rfl c9
        have g_22 : (15 : Int32).toInt = 15 := by decide
        refine s_X4_takeNumber ((15 : Int32)) z4 _ tz4 xz4 (by omega) (by omega) (fun r11 z10 tz10 o_24 xz10 hp_23 => ?_)
        have oz10 : Same [3702, 3703] [54] z z10 := oz4.tr o_24 (by decide) (by decide)
        have f_25 : 0 ≤ (gI z10 3702).toInt ∧ (gI z10 3702).toInt ≤ 300 := tz10.1 3702
        have f_26 : 0 ≤ (gI z10 3703).toInt ∧ (gI z10 3703).toInt ≤ 300 := tz10.1 3703
        refine ⟨fun c12 => ?_, fun c12 => ?_⟩
        · skip
          have i_27 := i_ne rfl (show (-1 : Int32).toInt = -1 by decide) c12
          refine ⟨vin rfl (by omega) (by omega), ?_⟩
          refine ⟨vin rfl (by omega) (by omega), ?_⟩
          intro z13 ez13
          have tz13 : TX z13 := by rw [ez13]; exact Ty_wR tz10 trivial
          have oz13 : Same [3702, 3703] [54] z z13 := oz10.r (by decide) ez13
          have xz13 : DG z13 := by rw [ez13]; exact xz10
          have g_28 : (1 : Int32).toInt = 1 := by decide
          have f_29 : 0 ≤ (gI z13 3702).toInt ∧ (gI z13 3702).toInt ≤ 300 := tz13.1 3702
          have q_30 := (show (gI z13 3702).toInt = (gI z10 3702).toInt by rw [ez13]; rfl)
          have f_31 : 0 ≤ (gI z13 3703).toInt ∧ (gI z13 3703).toInt ≤ 300 := tz13.1 3703
          have q_32 := (show (gI z13 3703).toInt = (gI z10 3703).toInt by rw [ez13]; rfl)
          exact hk ((1 : Int32)) z13 tz13 oz13 xz13 (Or.inl ⟨rfl, (by omega)⟩)
        · skip
          have i_33 := i_eq rfl (show (-1 : Int32).toInt = -1 by decide) c12
          have g_34 : (0 : Int32).toInt = 0 := by decide
          exact hk ((0 : Int32)) z10 tz10 oz10 xz10 (Or.inr ⟨rfl, (by omega)⟩)
      · skip
        have i_35 := i_eq rfl rfl c9
        have g_36 : (0 : Int32).toInt = 0 := by decide
        exact hk ((0 : Int32)) z4 tz4 oz4 xz4 (Or.inr ⟨rfl, (by omega)⟩)
    · subst er5
      have f_37 : 0 ≤ (gI z4 3702).toInt ∧ (gI z4 3702).toInt ≤ 300 := tz4.1 3702
      have f_38 : 0 ≤ (gI z4 3703).toInt ∧ (gI z4 3703).toInt ≤ 300 := tz4.1 3703
      refine ⟨fun _ => ?_, fun hc => absurd (show ((0 : Int32)) = ((0 : Int32)) by decide) hc⟩
      have g_39 : (0 : Int32).toInt = 0 := by decide
      exact hk ((0 : Int32)) z4 tz4 oz4 xz4 (Or.inr ⟨rfl, (by omega)⟩)

set_option maxHeartbeats 2000000 in
theorem s_X4_readDear_52  (z : St) (P : Int32 → St → Prop) (ht : TX z) (hrx : DG z) (h0 : (gI z 3702).toInt ≤ (gI z 3703).toInt) (h1 : (gI z 3703).toInt ≤ (gI z 3701).toInt) (hk : ∀ (r : Int32) (z2 : St), TX z2 → Same [3702, 3703, 5202] [] z z2 → DG z2 → ((r = 1 ∧ ((gI z2 3702).toInt ≤ (gI z2 3703).toInt ∧ (gI z2 3703).toInt ≤ (gI z 3701).toInt)) ∨ (r = 0 ∧ ((gI z2 3702).toInt ≤ (gI z2 3703).toInt ∧ (gI z2 3703).toInt ≤ (gI z 3701).toInt))) → P r z2) : wp_X4_readDear_52  z P := by
  unfold wp_X4_readDear_52
  have g_1 : (10000 : Int32).toInt = 10000 := by decide
  have f_2 : 0 ≤ (gI z 3702).toInt ∧ (gI z 3702).toInt ≤ 300 := ht.1 3702
  have f_3 : 0 ≤ (gI z 3703).toInt ∧ (gI z 3703).toInt ≤ 300 := ht.1 3703
  have f_4 : 0 ≤ (gI z 3701).toInt ∧ (gI z 3701).toInt ≤ 300 := ht.1 3701
  refine s_X4_takeNumber ((10000 : Int32)) z _ ht hrx (by omega) (by omega) (fun r2 z1 tz1 o_6 xz1 hp_5 => ?_)
  have oz1 : Same [3702, 3703, 5202] [] z z1 := (Same.rf (z := z)).tr o_6 (by decide) (by decide)
  have f_7 : 0 ≤ (gI z1 3702).toInt ∧ (gI z1 3702).toInt ≤ 300 := tz1.1 3702
  have f_8 : 0 ≤ (gI z1 3703).toInt ∧ (gI z1 3703).toInt ≤ 300 := tz1.1 3703
  refine ⟨fun c3 => ?_, fun c3 => ?_⟩
  · skip
    have i_9 := i_ne rfl (show (-1 : Int32).toInt = -1 by decide) c3
    intro z4 ez4
    have tz4 : TX z4 := by rw [ez4]; exact Ty_wI tz1 trivial
    have oz4 : Same [3702, 3703, 5202] [] z z4 := oz1.i (by decide) ez4
    have xz4 : DG z4 := by rw [ez4]; exact xz1
    have g_10 : (1 : Int32).toInt = 1 := by decide
    have f_11 : 0 ≤ (gI z4 3702).toInt ∧ (gI z4 3702).toInt ≤ 300 := tz4.1 3702
    have q_12 := (show (gI z4 3702).toInt = (gI z1 3702).toInt by rw [ez4]; rfl)
    have f_13 : 0 ≤ (gI z4 3703).toInt ∧ (gI z4 3703).toInt ≤ 300 := tz4.1 3703
    have q_14 := (show (gI z4 3703).toInt = (gI z1 3703).toInt by rw [ez4]; rfl)
    exact hk ((1 : Int32)) z4 tz4 oz4 xz4 (Or.inl ⟨rfl, (by omega)⟩)
  · skip
    have i_15 := i_eq rfl (show (-1 : Int32).toInt = -1 by decide) c3
    have g_16 : (0 : Int32).toInt = 0 := by decide
    exact hk ((0 : Int32)) z1 tz1 oz1 xz1 (Or.inr ⟨rfl, (by omega)⟩)

set_option maxHeartbeats 2000000 in
theorem s_X4_take_s3  (z : St) (P : Int32 → St → Prop) (ht : TX z) (hrx : DG z) (h0 : (gI z 3702).toInt ≤ (gI z 3703).toInt) (h1 : (gI z 3703).toInt ≤ (gI z 3701).toInt) (hk : ∀ (r : Int32) (z2 : St), TX z2 → Same [3702, 3703] [] z z2 → DG z2 → ((r = 1 ∧ ((gI z2 3702).toInt ≤ (gI z2 3703).toInt ∧ (gI z2 3703).toInt ≤ (gI z 3701).toInt)) ∨ (r = 0 ∧ ((gI z2 3702).toInt ≤ (gI z2 3703).toInt ∧ (gI z2 3703).toInt ≤ (gI z 3701).toInt))) → P r z2) : wp_X4_take_s3  z P := by
  unfold wp_X4_take_s3
  refine ⟨fun c3 => ?_, fun c3 => ?_⟩
  · skip
    have f_1 : 0 ≤ (gI z 3703).toInt ∧ (gI z 3703).toInt ≤ 300 := ht.1 3703
    have f_2 : 0 ≤ (gI z 3702).toInt ∧ (gI z 3702).toInt ≤ 300 := ht.1 3702
    have i_3 := i_eq (a_sub rfl rfl (by omega) (by omega)) (show (4 : Int32).toInt = 4 by decide) c3
    intro K5 hK_4
    have L_5 : ∀ (n : Nat) (v4 : Int32), (0 ≤ v4.toInt) → (v4.toInt ≤ 4) → ((gI z 3703).toInt - (gI z 3702).toInt = 4) → (4 - v4.toInt).toNat < n → K5 v4 := by
      intro n
      induction n with
      | zero => intro v4 w_6 w_7 w_8 m_10; omega
      | succ n ih_9 =>
        intro v4 w_6 w_7 w_8 m_10
        refine hK_4 v4 ?_
        refine ⟨fun c8 => ?_, fun c8 => ?_⟩
        · skip
          have i_11 := i_le (show (4 : Int32).toInt = 4 by decide) rfl c8
          have f_12 : 0 ≤ (gI z 3701).toInt ∧ (gI z 3701).toInt ≤ 300 := ht.1 3701
          refine s_X4_next  z _ ht (by omega) (fun z9 tz9 o_14 xz9 hp_13 => ?_)
          have oz9 : Same [3702, 3703] [] z z9 := (Same.rf (z := z)).tr o_14 (by decide) (by decide)
          have f_15 : 0 ≤ (gI z9 3702).toInt ∧ (gI z9 3702).toInt ≤ 300 := tz9.1 3702
          have f_16 : 0 ≤ (gI z9 3703).toInt ∧ (gI z9 3703).toInt ≤ 300 := tz9.1 3703
          have g_17 : (1 : Int32).toInt = 1 := by decide
          exact hk ((1 : Int32)) z9 tz9 oz9 xz9 (Or.inl ⟨rfl, (by omega)⟩)
        · skip
          have i_18 := i_nle (show (4 : Int32).toInt = 4 by decide) rfl c8
          refine ⟨vin (a_add rfl rfl (by omega) (by omega)) (by omega) (by omega), ?_⟩
          refine ⟨vin rfl (by omega) (by omega), ?_⟩
          refine ⟨fun c13 => ?_, fun c13 => ?_⟩
          · skip
            have i_19 := i_eq rfl rfl c13
            intro x14 ex14
            have ix14 : x14.toInt = (v4.toInt + (1)) := by rw [ex14]; exact (a_add rfl (show (1 : Int32).toInt = 1 by decide) (by omega) (by omega))
            exact ih_9 x14 (by omega) (by omega) (by omega) (by omega)
          · skip
            have i_20 := i_ne rfl rfl c13
            have g_21 : (0 : Int32).toInt = 0 := by decide
            have f_22 : 0 ≤ (gI z 3701).toInt ∧ (gI z 3701).toInt ≤ 300 := ht.1 3701
            exact hk ((0 : Int32)) z ht (Same.rf (z := z)) hrx (Or.inr ⟨rfl, (by omega)⟩)
    have g_23 : (0 : Int32).toInt = 0 := by decide
    exact L_5 ((4 - (0 : Int32).toInt).toNat + 1) ((0 : Int32)) (by omega) (by omega) (by omega) (by omega)
  · skip
    have f_24 : 0 ≤ (gI z 3703).toInt ∧ (gI z 3703).toInt ≤ 300 := ht.1 3703
    have f_25 : 0 ≤ (gI z 3702).toInt ∧ (gI z 3702).toInt ≤ 300 := ht.1 3702
    have i_26 := i_ne (a_sub rfl rfl (by omega) (by omega)) (show (4 : Int32).toInt = 4 by decide) c3
    have g_27 : (0 : Int32).toInt = 0 := by decide
    have f_28 : 0 ≤ (gI z 3701).toInt ∧ (gI z 3701).toInt ≤ 300 := ht.1 3701
    exact hk ((0 : Int32)) z ht (Same.rf (z := z)) hrx (Or.inr ⟨rfl, (by omega)⟩)

set_option maxHeartbeats 2000000 in
theorem s_X4_take_s4  (z : St) (P : Int32 → St → Prop) (ht : TX z) (hrx : DG z) (h0 : (gI z 3702).toInt ≤ (gI z 3703).toInt) (h1 : (gI z 3703).toInt ≤ (gI z 3701).toInt) (hk : ∀ (r : Int32) (z2 : St), TX z2 → Same [3702, 3703] [] z z2 → DG z2 → ((r = 1 ∧ ((gI z2 3702).toInt ≤ (gI z2 3703).toInt ∧ (gI z2 3703).toInt ≤ (gI z 3701).toInt)) ∨ (r = 0 ∧ ((gI z2 3702).toInt ≤ (gI z2 3703).toInt ∧ (gI z2 3703).toInt ≤ (gI z 3701).toInt))) → P r z2) : wp_X4_take_s4  z P := by
  unfold wp_X4_take_s4
  refine ⟨fun c3 => ?_, fun c3 => ?_⟩
  · skip
    have f_1 : 0 ≤ (gI z 3703).toInt ∧ (gI z 3703).toInt ≤ 300 := ht.1 3703
    have f_2 : 0 ≤ (gI z 3702).toInt ∧ (gI z 3702).toInt ≤ 300 := ht.1 3702
    have i_3 := i_eq (a_sub rfl rfl (by omega) (by omega)) (show (2 : Int32).toInt = 2 by decide) c3
    intro K5 hK_4
    have L_5 : ∀ (n : Nat) (v4 : Int32), (0 ≤ v4.toInt) → (v4.toInt ≤ 2) → ((gI z 3703).toInt - (gI z 3702).toInt = 2) → (2 - v4.toInt).toNat < n → K5 v4 := by
      intro n
      induction n with
      | zero => intro v4 w_6 w_7 w_8 m_10; omega
      | succ n ih_9 =>
        intro v4 w_6 w_7 w_8 m_10
        refine hK_4 v4 ?_
        refine ⟨fun c8 => ?_, fun c8 => ?_⟩
        · skip
          have i_11 := i_le (show (2 : Int32).toInt = 2 by decide) rfl c8
          have f_12 : 0 ≤ (gI z 3701).toInt ∧ (gI z 3701).toInt ≤ 300 := ht.1 3701
          refine s_X4_next  z _ ht (by omega) (fun z9 tz9 o_14 xz9 hp_13 => ?_)
          have oz9 : Same [3702, 3703] [] z z9 := (Same.rf (z := z)).tr o_14 (by decide) (by decide)
          have f_15 : 0 ≤ (gI z9 3702).toInt ∧ (gI z9 3702).toInt ≤ 300 := tz9.1 3702
          have f_16 : 0 ≤ (gI z9 3703).toInt ∧ (gI z9 3703).toInt ≤ 300 := tz9.1 3703
          have g_17 : (1 : Int32).toInt = 1 := by decide
          exact hk ((1 : Int32)) z9 tz9 oz9 xz9 (Or.inl ⟨rfl, (by omega)⟩)
        · skip
          have i_18 := i_nle (show (2 : Int32).toInt = 2 by decide) rfl c8
          refine ⟨vin (a_add rfl rfl (by omega) (by omega)) (by omega) (by omega), ?_⟩
          refine ⟨vin rfl (by omega) (by omega), ?_⟩
          refine ⟨fun c13 => ?_, fun c13 => ?_⟩
          · skip
            have i_19 := i_eq rfl rfl c13
            intro x14 ex14
            have ix14 : x14.toInt = (v4.toInt + (1)) := by rw [ex14]; exact (a_add rfl (show (1 : Int32).toInt = 1 by decide) (by omega) (by omega))
            exact ih_9 x14 (by omega) (by omega) (by omega) (by omega)
          · skip
            have i_20 := i_ne rfl rfl c13
            have g_21 : (0 : Int32).toInt = 0 := by decide
            have f_22 : 0 ≤ (gI z 3701).toInt ∧ (gI z 3701).toInt ≤ 300 := ht.1 3701
            exact hk ((0 : Int32)) z ht (Same.rf (z := z)) hrx (Or.inr ⟨rfl, (by omega)⟩)
    have g_23 : (0 : Int32).toInt = 0 := by decide
    exact L_5 ((2 - (0 : Int32).toInt).toNat + 1) ((0 : Int32)) (by omega) (by omega) (by omega) (by omega)
  · skip
    have f_24 : 0 ≤ (gI z 3703).toInt ∧ (gI z 3703).toInt ≤ 300 := ht.1 3703
    have f_25 : 0 ≤ (gI z 3702).toInt ∧ (gI z 3702).toInt ≤ 300 := ht.1 3702
    have i_26 := i_ne (a_sub rfl rfl (by omega) (by omega)) (show (2 : Int32).toInt = 2 by decide) c3
    have g_27 : (0 : Int32).toInt = 0 := by decide
    have f_28 : 0 ≤ (gI z 3701).toInt ∧ (gI z 3701).toInt ≤ 300 := ht.1 3701
    exact hk ((0 : Int32)) z ht (Same.rf (z := z)) hrx (Or.inr ⟨rfl, (by omega)⟩)

set_option maxHeartbeats 2000000 in
theorem s_X5_addQuiet_c52 (b1 : Int32) (b2 : Int32) (b3 : Int32) (z : St) (P : St → Prop) (ht : TX z) (h0 : 0 ≤ b1.toInt ∧ b1.toInt ≤ 3) (hk : ∀ (z2 : St), TX z2 → Same [] [53] z z2 → (True) → P z2) : wp_X5_addQuiet_c52 b1 b2 b3 z P := by
  unfold wp_X5_addQuiet_c52
  intro K2 hK_1
  have L_2 : ∀ (n : Nat) (v1 : Int32) (z3 : St), TX z3 → Same [] [53] z z3 → (0 ≤ v1.toInt) → (v1.toInt ≤ 24) → (24 - v1.toInt).toNat < n → K2 v1 z3 := by
    intro n
    induction n with
    | zero => intro v1 z3 tz3 ocz3 w_3 w_4 m_6; omega
    | succ n ih_5 =>
      intro v1 z3 tz3 ocz3 w_3 w_4 m_6
      refine hK_1 v1 z3 ?_
      refine ⟨fun c4 => ?_, fun c4 => ?_⟩
      · skip
        have i_7 := i_le (show (24 : Int32).toInt = 24 by decide) rfl c4
        exact hk z3 tz3 ocz3 trivial
      · skip
        have i_8 := i_nle (show (24 : Int32).toInt = 24 by decide) rfl c4
        intro K6 hK_9
        refine ⟨fun c20 => ?_, fun c20 => ?_⟩
        · skip
          have i_10 := i_lt rfl rfl c20
          refine hK_9 ((0 : Int32)) ?_
          intro K_11 hK_24
          refine ⟨fun c_23 => ?_, fun c_23 => ?_⟩
          · skip
            have i_25 := i_lt rfl rfl c_23
            refine hK_24 ((0 : Int32)) ?_
            intro K_26 hK_36
            intro K_29 hK_37
            refine ⟨fun c_31 => ?_, fun c_31 => ?_⟩
            · skip
              have i_38 := i_lt rfl rfl c_31
              refine ⟨fun hc => absurd hc (by decide), fun _ => ?_⟩
              refine ⟨fun _ => ?_, fun hc => absurd (show ((0 : Int32)) = ((0 : Int32)) by decide) hc⟩
              refine hK_36 z3 ?_
              intro y_39 ey_39
              have iy_39 : y_39.toInt = (v1.toInt + (1)) := by rw [ey_39]; exact (a_add rfl (show (1 : Int32).toInt = 1 by decide) (by omega) (by omega))
              exact ih_5 y_39 z3 tz3 ocz3 (by omega) (by omega) (by omega)
            · skip
              have i_40 := i_nlt rfl rfl c_31
              refine ⟨fun _ => ?_, fun hc => absurd (show ((0 : Int32)) = ((0 : Int32)) by decide) hc⟩
              refine hK_36 z3 ?_
              intro y_41 ey_41
              have iy_41 : y_41.toInt = (v1.toInt + (1)) := by rw [ey_41]; exact (a_add rfl (show (1 : Int32).toInt = 1 by decide) (by omega) (by omega))
              exact ih_5 y_41 z3 tz3 ocz3 (by omega) (by omega) (by omega)
          · skip
            have i_42 := i_nlt rfl rfl c_23
            refine hK_24 ((1 : Int32)) ?_
            intro K_43 hK_53
            intro K_46 hK_54
            refine ⟨fun c_48 => ?_, fun c_48 => ?_⟩
            · skip
              have i_55 := i_lt rfl rfl c_48
              refine ⟨fun hc => absurd hc (by decide), fun _ => ?_⟩
              refine ⟨fun hc => absurd hc (by decide), fun _ => ?_⟩
              refine hK_54  ?_
              refine ⟨vin rfl (by omega) (by omega), ?_⟩
              refine ⟨vin rfl (by omega) (by omega), ?_⟩
              intro z_56 ez_56
              have tz_56 : TX z_56 := by rw [ez_56]; exact Ty_wR tz3 trivial
              have oz_56 : Same [] [53] z z_56 := ocz3.r (by decide) ez_56
              refine hK_53 z_56 ?_
              intro y_57 ey_57
              have iy_57 : y_57.toInt = (v1.toInt + (1)) := by rw [ey_57]; exact (a_add rfl (show (1 : Int32).toInt = 1 by decide) (by omega) (by omega))
              exact ih_5 y_57 z_56 tz_56 oz_56 (by omega) (by omega) (by omega)
            · skip
              have i_58 := i_nlt rfl rfl c_48
              refine ⟨fun _ => ?_, fun hc => absurd (show ((0 : Int32)) = ((0 : Int32)) by decide) hc⟩
              refine hK_53 z3 ?_
              intro y_59 ey_59
              have iy_59 : y_59.toInt = (v1.toInt + (1)) := by rw [ey_59]; exact (a_add rfl (show (1 : Int32).toInt = 1 by decide) (by omega) (by omega))
              exact ih_5 y_59 z3 tz3 ocz3 (by omega) (by omega) (by omega)
        · skip
          have i_60 := i_nlt rfl rfl c20
          refine hK_9 ((1 : Int32)) ?_
          intro K_61 hK_74
          refine ⟨fun c_73 => ?_, fun c_73 => ?_⟩
          · skip
            have i_75 := i_lt rfl rfl c_73
            refine hK_74 ((0 : Int32)) ?_
            intro K_76 hK_86
            intro K_79 hK_87
            refine ⟨fun c_81 => ?_, fun c_81 => ?_⟩
            · skip
              have i_88 := i_lt rfl rfl c_81
              refine ⟨fun _ => ?_, fun hc => absurd hc (by decide)⟩
              refine hK_87  ?_
              refine ⟨vin rfl (by omega) (by omega), ?_⟩
              refine ⟨vin rfl (by omega) (by omega), ?_⟩
              intro z_89 ez_89
              have tz_89 : TX z_89 := by rw [ez_89]; exact Ty_wR tz3 trivial
              have oz_89 : Same [] [53] z z_89 := ocz3.r (by decide) ez_89
              refine hK_86 z_89 ?_
              intro y_90 ey_90
              have iy_90 : y_90.toInt = (v1.toInt + (1)) := by rw [ey_90]; exact (a_add rfl (show (1 : Int32).toInt = 1 by decide) (by omega) (by omega))
              exact ih_5 y_90 z_89 tz_89 oz_89 (by omega) (by omega) (by omega)
            · skip
              have i_91 := i_nlt rfl rfl c_81
              refine ⟨fun hc => absurd hc (by decide), fun _ => ?_⟩
              refine ⟨fun _ => ?_, fun hc => absurd (show ((0 : Int32)) = ((0 : Int32)) by decide) hc⟩
              refine hK_86 z3 ?_
              intro y_92 ey_92
              have iy_92 : y_92.toInt = (v1.toInt + (1)) := by rw [ey_92]; exact (a_add rfl (show (1 : Int32).toInt = 1 by decide) (by omega) (by omega))
              exact ih_5 y_92 z3 tz3 ocz3 (by omega) (by omega) (by omega)
          · skip
            have i_93 := i_nlt rfl rfl c_73
            refine hK_74 ((1 : Int32)) ?_
            intro K_94 hK_104
            intro K_97 hK_105
            refine ⟨fun c_99 => ?_, fun c_99 => ?_⟩
            · skip
              have i_106 := i_lt rfl rfl c_99
              refine ⟨fun _ => ?_, fun hc => absurd hc (by decide)⟩
              refine hK_105  ?_
              refine ⟨vin rfl (by omega) (by omega), ?_⟩
              refine ⟨vin rfl (by omega) (by omega), ?_⟩
              intro z_107 ez_107
              have tz_107 : TX z_107 := by rw [ez_107]; exact Ty_wR tz3 trivial
              have oz_107 : Same [] [53] z z_107 := ocz3.r (by decide) ez_107
              refine hK_104 z_107 ?_
              intro y_108 ey_108
              have iy_108 : y_108.toInt = (v1.toInt + (1)) := by rw [ey_108]; exact (a_add rfl (show (1 : Int32).toInt = 1 by decide) (by omega) (by omega))
              exact ih_5 y_108 z_107 tz_107 oz_107 (by omega) (by omega) (by omega)
            · skip
              have i_109 := i_nlt rfl rfl c_99
              refine ⟨fun hc => absurd hc (by decide), fun _ => ?_⟩
              refine ⟨fun hc => absurd hc (by decide), fun _ => ?_⟩
              refine hK_105  ?_
              refine ⟨vin rfl (by omega) (by omega), ?_⟩
              refine ⟨vin rfl (by omega) (by omega), ?_⟩
              intro z_110 ez_110
              have tz_110 : TX z_110 := by rw [ez_110]; exact Ty_wR tz3 trivial
              have oz_110 : Same [] [53] z z_110 := ocz3.r (by decide) ez_110
              refine hK_104 z_110 ?_
              intro y_111 ey_111
              have iy_111 : y_111.toInt = (v1.toInt + (1)) := by rw [ey_111]; exact (a_add rfl (show (1 : Int32).toInt = 1 by decide) (by omega) (by omega))
              exact ih_5 y_111 z_110 tz_110 oz_110 (by omega) (by omega) (by omega)
  have g_112 : (0 : Int32).toInt = 0 := by decide
  exact L_2 ((24 - (0 : Int32).toInt).toNat + 1) ((0 : Int32)) z ht (Same.rf (z := z)) (by omega) (by omega) (by omega)

