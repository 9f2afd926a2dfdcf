set_option maxHeartbeats 2000000 in
theorem s2_X9_store (b1 : Int32) (b2 : Int32) (b3 : Int32) (b4 : Int32) (b5 : Int32) (b6 : Int32) (b7 : Int32) (z : St) (P : Int32 → St → Prop) (ht : TM z) (hrx : RN z)  (hk : ∀ (r : Int32) (z2 : St), TM z2 → Same [0, 1, 43] [26, 27, 28, 29, 30, 31, 32] z z2 → RN z2 → (True) → P r z2) : wp_X9_store b1 b2 b3 b4 b5 b6 b7 z P := by
  unfold wp_X9_store
  intro z1 ez1
  have tz1 : TM z1 := by rw [ez1]; exact Ty_wI ht trivial
  have oz1 : Same [0, 1, 43] [26, 27, 28, 29, 30, 31, 32] z z1 := (Same.rf (z := z)).i (by decide) ez1
  have xz1 : RN z1 := by rw [ez1]; exact hrx
  have g_1 : (Int32.toInt64 b2).toInt = b2.toInt := (a_wide rfl)
  have g_2 : (1 : Int64).toInt = 1 := by decide
  have g_3 : (40 : Int64).toInt = 40 := by decide
  refine s_X9_in (Int32.toInt64 b2) ((1 : Int64)) ((40 : Int64)) z1 _ tz1  (fun r3 hp_4 => ?_)
  rcases hp_4 with ⟨er3, hp_4⟩ | ⟨er3, hp_4⟩
  · subst er3
    intro K4 hK_5
    refine ⟨fun hc => absurd hc (by decide), fun _ => ?_⟩
    have g_6 : (Int32.toInt64 b3).toInt = b3.toInt := (a_wide rfl)
    have g_7 : (0 : Int64).toInt = 0 := by decide
    have g_8 : (Int32.toInt64 b2).toInt = b2.toInt := (a_wide rfl)
    refine s_X9_in (Int32.toInt64 b3) ((0 : Int64)) (Int32.toInt64 b2) z1 _ tz1  (fun r9 hp_9 => ?_)
    rcases hp_9 with ⟨er9, hp_9⟩ | ⟨er9, hp_9⟩
    · subst er9
      refine ⟨fun hc => absurd hc (by decide), fun _ => ?_⟩
      have g_10 : (Int32.toInt64 b4).toInt = b4.toInt := (a_wide rfl)
      have g_11 : (0 : Int64).toInt = 0 := by decide
      have g_12 : (10 : Int64).toInt = 10 := by decide
      refine s_X9_in (Int32.toInt64 b4) ((0 : Int64)) ((10 : Int64)) z1 _ tz1  (fun r12 hp_13 => ?_)
      rcases hp_13 with ⟨er12, hp_13⟩ | ⟨er12, hp_13⟩
      · subst er12
        refine ⟨fun hc => absurd hc (by decide), fun _ => ?_⟩
        have g_14 : (Int32.toInt64 b5).toInt = b5.toInt := (a_wide rfl)
        have g_15 : (0 : Int64).toInt = 0 := by decide
        have g_16 : (10 : Int64).toInt = 10 := by decide
        refine s_X9_in (Int32.toInt64 b5) ((0 : Int64)) ((10 : Int64)) z1 _ tz1  (fun r15 hp_17 => ?_)
        rcases hp_17 with ⟨er15, hp_17⟩ | ⟨er15, hp_17⟩
        · subst er15
          refine ⟨fun hc => absurd hc (by decide), fun _ => ?_⟩
          have g_18 : (Int32.toInt64 b6).toInt = b6.toInt := (a_wide rfl)
          have g_19 : (0 : Int64).toInt = 0 := by decide
          have g_20 : (3 : Int64).toInt = 3 := by decide
          refine s_X9_in (Int32.toInt64 b6) ((0 : Int64)) ((3 : Int64)) z1 _ tz1  (fun r18 hp_21 => ?_)
          rcases hp_21 with ⟨er18, hp_21⟩ | ⟨er18, hp_21⟩
          · subst er18
            refine ⟨fun hc => absurd hc (by decide), fun _ => ?_⟩
            have g_22 : (Int32.toInt64 b7).toInt = b7.toInt := (a_wide rfl)
            have g_23 : (1 : Int64).toInt = 1 := by decide
            have g_24 : (1000 : Int64).toInt = 1000 := by decide
            refine s_X9_in (Int32.toInt64 b7) ((1 : Int64)) ((1000 : Int64)) z1 _ tz1  (fun r21 hp_25 => ?_)
            rcases hp_25 with ⟨er21, hp_25⟩ | ⟨er21, hp_25⟩
            · subst er21
              refine ⟨fun _ => ?_, fun hc => absurd hc (by decide)⟩
              refine s_X9_isHome b1 z1 _ tz1  (fun r24 hp_26 => ?_)
              rcases hp_26 with ⟨er24, hp_26⟩ | ⟨er24, hp_26⟩
              · subst er24
                have f_27 : 0 ≤ (gI z1 8).toInt ∧ (gI z1 8).toInt ≤ 4 := tz1.1 8
                have q_28 := (show (gI z1 8).toInt = (gI z 8).toInt by rw [ez1]; rfl)
                have f_29 : 0 ≤ (gI z 8).toInt ∧ (gI z 8).toInt ≤ 4 := ht.1 8
                refine ⟨fun _ => ?_, fun hc => absurd hc (by decide)⟩
                refine ⟨fun c26 => ?_, fun c26 => ?_⟩
                · skip
                  have f_30 : 0 ≤ (gI z1 43).toInt ∧ (gI z1 43).toInt ≤ 6 := tz1.1 43
                  have q_31 := (show (gI z1 43).toInt = (gI z 43).toInt by rw [ez1]; rfl)
                  have f_32 : 0 ≤ (gI z 43).toInt ∧ (gI z 43).toInt ≤ 6 := ht.1 43
                  have i_33 := i_ne rfl (show (6 : Int32).toInt = 6 by decide) c26
                  refine ⟨vin rfl (by omega) (by omega), ?_⟩
                  intro z27 ez27
                  have tz27 : TM z27 := by rw [ez27]; exact Ty_wR tz1 (show 0 ≤ b1.toInt ∧ b1.toInt ≤ 3 from by omega)
                  have oz27 : Same [0, 1, 43] [26, 27, 28, 29, 30, 31, 32] z z27 := oz1.r (by decide) ez27
                  have xz27 : RN z27 := by rw [ez27]; exact xz1
                  have f_34 : 0 ≤ (gI z27 43).toInt ∧ (gI z27 43).toInt ≤ 6 := tz27.1 43
                  have q_35 := ((show (gI z27 43).toInt = (gI z1 43).toInt by rw [ez27]; rfl)).trans (show (gI z1 43).toInt = (gI z 43).toInt by rw [ez1]; rfl)
                  refine ⟨vin rfl (by omega) (by omega), ?_⟩
                  intro z28 ez28
                  have tz28 : TM z28 := by rw [ez28]; exact Ty_wR tz27 (show 0 ≤ b2.toInt ∧ b2.toInt ≤ 40 from by omega)
                  have oz28 : Same [0, 1, 43] [26, 27, 28, 29, 30, 31, 32] z z28 := oz27.r (by decide) ez28
                  have f_36 : 0 ≤ (gI z28 43).toInt ∧ (gI z28 43).toInt ≤ 6 := tz28.1 43
                  have q_37 := (((show (gI z28 43).toInt = (gI z27 43).toInt by rw [ez28]; rfl)).trans (show (gI z27 43).toInt = (gI z1 43).toInt by rw [ez27]; rfl)).trans (show (gI z1 43).toInt = (gI z 43).toInt by rw [ez1]; rfl)
                  refine ⟨vin rfl (by omega) (by omega), ?_⟩
                  intro z29 ez29
                  have tz29 : TM z29 := by rw [ez29]; exact Ty_wR tz28 (show 0 ≤ b3.toInt ∧ b3.toInt ≤ 40 from by omega)
                  have oz29 : Same [0, 1, 43] [26, 27, 28, 29, 30, 31, 32] z z29 := oz28.r (by decide) ez29
                  have xz29 : RN z29 := RN_store xz27 ez28 ez29 (by rw [ez28]; rfl) (by omega)
                  have f_38 : 0 ≤ (gI z29 43).toInt ∧ (gI z29 43).toInt ≤ 6 := tz29.1 43
                  have q_39 := ((((show (gI z29 43).toInt = (gI z28 43).toInt by rw [ez29]; rfl)).trans (show (gI z28 43).toInt = (gI z27 43).toInt by rw [ez28]; rfl)).trans (show (gI z27 43).toInt = (gI z1 43).toInt by rw [ez27]; rfl)).trans (show (gI z1 43).toInt = (gI z 43).toInt by rw [ez1]; rfl)
                  refine ⟨vin rfl (by omega) (by omega), ?_⟩
                  intro z30 ez30
                  have tz30 : TM z30 := by rw [ez30]; exact Ty_wR tz29 (show 0 ≤ b4.toInt ∧ b4.toInt ≤ 10 from by omega)
                  have oz30 : Same [0, 1, 43] [26, 27, 28, 29, 30, 31, 32] z z30 := oz29.r (by decide) ez30
                  have xz30 : RN z30 := by rw [ez30]; exact xz29
                  have f_40 : 0 ≤ (gI z30 43).toInt ∧ (gI z30 43).toInt ≤ 6 := tz30.1 43
                  have q_41 := (((((show (gI z30 43).toInt = (gI z29 43).toInt by rw [ez30]; rfl)).trans (show (gI z29 43).toInt = (gI z28 43).toInt by rw [ez29]; rfl)).trans (show (gI z28 43).toInt = (gI z27 43).toInt by rw [ez28]; rfl)).trans (show (gI z27 43).toInt = (gI z1 43).toInt by rw [ez27]; rfl)).trans (show (gI z1 43).toInt = (gI z 43).toInt by rw [ez1]; rfl)
                  refine ⟨vin rfl (by omega) (by omega), ?_⟩
                  intro z31 ez31
                  have tz31 : TM z31 := by rw [ez31]; exact Ty_wR tz30 (show 0 ≤ b5.toInt ∧ b5.toInt ≤ 10 from by omega)
                  have oz31 : Same [0, 1, 43] [26, 27, 28, 29, 30, 31, 32] z z31 := oz30.r (by decide) ez31
                  have xz31 : RN z31 := by rw [ez31]; exact xz30
                  have f_42 : 0 ≤ (gI z31 43).toInt ∧ (gI z31 43).toInt ≤ 6 := tz31.1 43
                  have q_43 := ((((((show (gI z31 43).toInt = (gI z30 43).toInt by rw [ez31]; rfl)).trans (show (gI z30 43).toInt = (gI z29 43).toInt by rw [ez30]; rfl)).trans (show (gI z29 43).toInt = (gI z28 43).toInt by rw [ez29]; rfl)).trans (show (gI z28 43).toInt = (gI z27 43).toInt by rw [ez28]; rfl)).trans (show (gI z27 43).toInt = (gI z1 43).toInt by rw [ez27]; rfl)).trans (show (gI z1 43).toInt = (gI z 43).toInt by rw [ez1]; rfl)
                  refine ⟨vin rfl (by omega) (by omega), ?_⟩
                  intro z32 ez32
                  have tz32 : TM z32 := by rw [ez32]; exact Ty_wR tz31 (show 0 ≤ b6.toInt ∧ b6.toInt ≤ 3 from by omega)
                  have oz32 : Same [0, 1, 43] [26, 27, 28, 29, 30, 31, 32] z z32 := oz31.r (by decide) ez32
                  have xz32 : RN z32 := by rw [ez32]; exact xz31
                  have f_44 : 0 ≤ (gI z32 43).toInt ∧ (gI z32 43).toInt ≤ 6 := tz32.1 43
                  have q_45 := (((((((show (gI z32 43).toInt = (gI z31 43).toInt by rw [ez32]; rfl)).trans (show (gI z31 43).toInt = (gI z30 43).toInt by rw [ez31]; rfl)).trans (show (gI z30 43).toInt = (gI z29 43).toInt by rw [ez30]; rfl)).trans (show (gI z29 43).toInt = (gI z28 43).toInt by rw [ez29]; rfl)).trans (show (gI z28 43).toInt = (gI z27 43).toInt by rw [ez28]; rfl)).trans (show (gI z27 43).toInt = (gI z1 43).toInt by rw [ez27]; rfl)).trans (show (gI z1 43).toInt = (gI z 43).toInt by rw [ez1]; rfl)
                  refine ⟨vin rfl (by omega) (by omega), ?_⟩
                  intro z33 ez33
                  have tz33 : TM z33 := by rw [ez33]; exact Ty_wR tz32 trivial
                  have oz33 : Same [0, 1, 43] [26, 27, 28, 29, 30, 31, 32] z z33 := oz32.r (by decide) ez33
                  have xz33 : RN z33 := by rw [ez33]; exact xz32
                  intro z34 ez34
                  have f_46 : 0 ≤ (gI z33 43).toInt ∧ (gI z33 43).toInt ≤ 6 := tz33.1 43
                  have q_47 := ((((((((show (gI z33 43).toInt = (gI z32 43).toInt by rw [ez33]; rfl)).trans (show (gI z32 43).toInt = (gI z31 43).toInt by rw [ez32]; rfl)).trans (show (gI z31 43).toInt = (gI z30 43).toInt by rw [ez31]; rfl)).trans (show (gI z30 43).toInt = (gI z29 43).toInt by rw [ez30]; rfl)).trans (show (gI z29 43).toInt = (gI z28 43).toInt by rw [ez29]; rfl)).trans (show (gI z28 43).toInt = (gI z27 43).toInt by rw [ez28]; rfl)).trans (show (gI z27 43).toInt = (gI z1 43).toInt by rw [ez27]; rfl)).trans (show (gI z1 43).toInt = (gI z 43).toInt by rw [ez1]; rfl)
                  have tz34 : TM z34 := by rw [ez34]; exact Ty_wI tz33 (show 0 ≤ ((gI z33 43) + (1 : Int32)).toInt ∧ ((gI z33 43) + (1 : Int32)).toInt ≤ 6 from by rw [(a_add rfl (show (1 : Int32).toInt = 1 by decide) (by omega) (by omega))]; omega)
                  have oz34 : Same [0, 1, 43] [26, 27, 28, 29, 30, 31, 32] z z34 := oz33.i (by decide) ez34
                  have xz34 : RN z34 := by rw [ez34]; exact xz33
                  have f_48 : 0 ≤ (gI z34 43).toInt ∧ (gI z34 43).toInt ≤ 6 := tz34.1 43
                  have q_49 := (show (gI z34 43).toInt = ((gI z33 43) + (1 : Int32)).toInt by rw [ez34]; rfl)
                  have q_50 : ((gI z33 43) + (1 : Int32)).toInt = ((gI z33 43).toInt + (1)) := (a_add rfl (show (1 : Int32).toInt = 1 by decide) (by omega) (by omega))
                  have g_51 : ((gI z34 43) - (1 : Int32)).toInt = ((gI z34 43).toInt - (1)) := (a_sub rfl (show (1 : Int32).toInt = 1 by decide) (by omega) (by omega))
                  refine s_X9_told ((gI z34 43) - ((1 : Int32))) z34 _ tz34  (fun r36 z35 tz35 o_53 hp_52 => ?_)
                  have oz35 : Same [0, 1, 43] [26, 27, 28, 29, 30, 31, 32] z z35 := oz34.tr o_53 (by decide) (by decide)
                  have xz35 : RN z35 := RN_same xz34 o_53 (by decide) (by decide)
                  exact hk r36 z35 tz35 oz35 xz35 trivial
                · skip
                  have f_54 : 0 ≤ (gI z1 43).toInt ∧ (gI z1 43).toInt ≤ 6 := tz1.1 43
                  have q_55 := (show (gI z1 43).toInt = (gI z 43).toInt by rw [ez1]; rfl)
                  have f_56 : 0 ≤ (gI z 43).toInt ∧ (gI z 43).toInt ≤ 6 := ht.1 43
                  have i_57 := i_eq rfl (show (6 : Int32).toInt = 6 by decide) c26
                  have g_58 : (-5 : Int32).toInt = -5 := by decide
                  refine s_X9_told ((-5 : Int32)) z1 _ tz1  (fun r38 z37 tz37 o_60 hp_59 => ?_)
                  have oz37 : Same [0, 1, 43] [26, 27, 28, 29, 30, 31, 32] z z37 := oz1.tr o_60 (by decide) (by decide)
                  have xz37 : RN z37 := RN_same xz1 o_60 (by decide) (by decide)
                  exact hk r38 z37 tz37 oz37 xz37 trivial
              · subst er24
                have f_61 : 0 ≤ (gI z1 8).toInt ∧ (gI z1 8).toInt ≤ 4 := tz1.1 8
                have q_62 := (show (gI z1 8).toInt = (gI z 8).toInt by rw [ez1]; rfl)
                have f_63 : 0 ≤ (gI z 8).toInt ∧ (gI z 8).toInt ≤ 4 := ht.1 8
                refine ⟨fun hc => absurd hc (by decide), fun _ => ?_⟩
                have g_64 : (-2 : Int32).toInt = -2 := by decide
                refine s_X9_told ((-2 : Int32)) z1 _ tz1  (fun r40 z39 tz39 o_66 hp_65 => ?_)
                have oz39 : Same [0, 1, 43] [26, 27, 28, 29, 30, 31, 32] z z39 := oz1.tr o_66 (by decide) (by decide)
                have xz39 : RN z39 := RN_same xz1 o_66 (by decide) (by decide)
                exact hk r40 z39 tz39 oz39 xz39 trivial
            · subst er21
              refine ⟨fun hc => absurd hc (by decide), fun _ => ?_⟩
              refine hK_5  ?_
              have g_69 : (-1 : Int32).toInt = -1 := by decide
              refine s_X9_told ((-1 : Int32)) z1 _ tz1  (fun r_67 z_68 tz_68 o_71 hp_70 => ?_)
              have oz_68 : Same [0, 1, 43] [26, 27, 28, 29, 30, 31, 32] z z_68 := oz1.tr o_71 (by decide) (by decide)
              have xz_68 : RN z_68 := RN_same xz1 o_71 (by decide) (by decide)
              exact hk r_67 z_68 tz_68 oz_68 xz_68 trivial
          · subst er18
            refine ⟨fun _ => ?_, fun hc => absurd (show ((0 : Int32)) = ((0 : Int32)) by decide) hc⟩
            refine hK_5  ?_
            have g_74 : (-1 : Int32).toInt = -1 := by decide
            refine s_X9_told ((-1 : Int32)) z1 _ tz1  (fun r_72 z_73 tz_73 o_76 hp_75 => ?_)
            have oz_73 : Same [0, 1, 43] [26, 27, 28, 29, 30, 31, 32] z z_73 := oz1.tr o_76 (by decide) (by decide)
            have xz_73 : RN z_73 := RN_same xz1 o_76 (by decide) (by decide)
            exact hk r_72 z_73 tz_73 oz_73 xz_73 trivial
        · subst er15
          refine ⟨fun _ => ?_, fun hc => absurd (show ((0 : Int32)) = ((0 : Int32)) by decide) hc⟩
          refine hK_5  ?_
          have g_79 : (-1 : Int32).toInt = -1 := by decide
          refine s_X9_told ((-1 : Int32)) z1 _ tz1  (fun r_77 z_78 tz_78 o_81 hp_80 => ?_)
          have oz_78 : Same [0, 1, 43] [26, 27, 28, 29, 30, 31, 32] z z_78 := oz1.tr o_81 (by decide) (by decide)
          have xz_78 : RN z_78 := RN_same xz1 o_81 (by decide) (by decide)
          exact hk r_77 z_78 tz_78 oz_78 xz_78 trivial
      · subst er12
        refine ⟨fun _ => ?_, fun hc => absurd (show ((0 : Int32)) = ((0 : Int32)) by decide) hc⟩
        refine hK_5  ?_
        have g_84 : (-1 : Int32).toInt = -1 := by decide
        refine s_X9_told ((-1 : Int32)) z1 _ tz1  (fun r_82 z_83 tz_83 o_86 hp_85 => ?_)
        have oz_83 : Same [0, 1, 43] [26, 27, 28, 29, 30, 31, 32] z z_83 := oz1.tr o_86 (by decide) (by decide)
        have xz_83 : RN z_83 := RN_same xz1 o_86 (by decide) (by decide)
        exact hk r_82 z_83 tz_83 oz_83 xz_83 trivial
    · subst er9
      refine ⟨fun _ => ?_, fun hc => absurd (show ((0 : Int32)) = ((0 : Int32)) by decide) hc⟩
      refine hK_5  ?_
      have g_89 : (-1 : Int32).toInt = -1 := by decide
      refine s_X9_told ((-1 : Int32)) z1 _ tz1  (fun r_87 z_88 tz_88 o_91 hp_90 => ?_)
      have oz_88 : Same [0, 1, 43] [26, 27, 28, 29, 30, 31, 32] z z_88 := oz1.tr o_91 (by decide) (by decide)
      have xz_88 : RN z_88 := RN_same xz1 o_91 (by decide) (by decide)
      exact hk r_87 z_88 tz_88 oz_88 xz_88 trivial
  · subst er3
    intro K4 hK_92
    refine ⟨fun _ => ?_, fun hc => absurd (show ((0 : Int32)) = ((0 : Int32)) by decide) hc⟩
    refine hK_92  ?_
    have g_95 : (-1 : Int32).toInt = -1 := by decide
    refine s_X9_told ((-1 : Int32)) z1 _ tz1  (fun r_93 z_94 tz_94 o_97 hp_96 => ?_)
    have oz_94 : Same [0, 1, 43] [26, 27, 28, 29, 30, 31, 32] z z_94 := oz1.tr o_97 (by decide) (by decide)
    have xz_94 : RN z_94 := RN_same xz1 o_97 (by decide) (by decide)
    exact hk r_93 z_94 tz_94 oz_94 xz_94 trivial

set_option maxHeartbeats 2000000 in
theorem s2_X9_level (b1 : Int32) (b2 : Int32) (z : St) (P : Int32 → St → Prop) (ht : TM z) (hrx : RN z)  (hk : ∀ (r : Int32) (z2 : St), TM z2 → Same [0, 1] [28] z z2 → RN z2 → (True) → P r z2) : wp_X9_level b1 b2 z P := by
  unfold wp_X9_level
  intro z1 ez1
  have tz1 : TM z1 := by rw [ez1]; exact Ty_wI ht trivial
  have oz1 : Same [0, 1] [28] z z1 := (Same.rf (z := z)).i (by decide) ez1
  have xz1 : RN z1 := by rw [ez1]; exact hrx
  refine ⟨fun c2 => ?_, fun c2 => ?_⟩
  · skip
    have i_1 := i_le (show (0 : Int32).toInt = 0 by decide) rfl c2
    refine s_X9_isStore b1 z1 _ tz1  (fun r4 hp_2 => ?_)
    rcases hp_2 with ⟨er4, hp_2⟩ | ⟨er4, hp_2⟩
    · subst er4
      have f_3 : 0 ≤ (gI z1 43).toInt ∧ (gI z1 43).toInt ≤ 6 := tz1.1 43
      have q_4 := (show (gI z1 43).toInt = (gI z 43).toInt by rw [ez1]; rfl)
      have f_5 : 0 ≤ (gI z 43).toInt ∧ (gI z 43).toInt ≤ 6 := ht.1 43
      refine ⟨fun _ => ?_, fun hc => absurd hc (by decide)⟩
      refine ⟨vin rfl (by omega) (by omega), ?_⟩
      refine ⟨fun c6 => ?_, fun c6 => ?_⟩
      · skip
        have f_6 : 0 ≤ (gF z1 27 b1.toNatClampNeg).toInt ∧ (gF z1 27 b1.toNatClampNeg).toInt ≤ 40 := tz1.2 27 _
        have q_7 := (show (gF z1 27 b1.toNatClampNeg).toInt = (gF z 27 b1.toNatClampNeg).toInt by rw [ez1]; rfl)
        have f_8 : 0 ≤ (gF z 27 b1.toNatClampNeg).toInt ∧ (gF z 27 b1.toNatClampNeg).toInt ≤ 40 := ht.2 27 _
        have i_9 := i_le rfl rfl c6
        refine ⟨vin rfl (by omega) (by omega), ?_⟩
        intro x7 ex7
        have f_10 : 0 ≤ (gF z1 28 b1.toNatClampNeg).toInt ∧ (gF z1 28 b1.toNatClampNeg).toInt ≤ 40 := tz1.2 28 _
        have q_11 := (show (gF z1 28 b1.toNatClampNeg).toInt = (gF z 28 b1.toNatClampNeg).toInt by rw [ez1]; rfl)
        have f_12 : 0 ≤ (gF z 28 b1.toNatClampNeg).toInt ∧ (gF z 28 b1.toNatClampNeg).toInt ≤ 40 := ht.2 28 _
        have ix7 : x7.toInt = (gF z1 28 b1.toNatClampNeg).toInt := by rw [ex7]
        refine ⟨vin rfl (by omega) (by omega), ?_⟩
        intro z8 ez8
        have tz8 : TM z8 := by rw [ez8]; exact Ty_wR tz1 (show 0 ≤ b2.toInt ∧ b2.toInt ≤ 40 from by omega)
        have oz8 : Same [0, 1] [28] z z8 := oz1.r (by decide) ez8
        have xz8 : RN z8 := RN_level xz1 ez8 (by omega)
        refine s_X9_told x7 z8 _ tz8  (fun r10 z9 tz9 o_14 hp_13 => ?_)
        have oz9 : Same [0, 1] [28] z z9 := oz8.tr o_14 (by decide) (by decide)
        have xz9 : RN z9 := RN_same xz8 o_14 (by decide) (by decide)
        exact hk r10 z9 tz9 oz9 xz9 trivial
      · skip
        have f_15 : 0 ≤ (gF z1 27 b1.toNatClampNeg).toInt ∧ (gF z1 27 b1.toNatClampNeg).toInt ≤ 40 := tz1.2 27 _
        have q_16 := (show (gF z1 27 b1.toNatClampNeg).toInt = (gF z 27 b1.toNatClampNeg).toInt by rw [ez1]; rfl)
        have f_17 : 0 ≤ (gF z 27 b1.toNatClampNeg).toInt ∧ (gF z 27 b1.toNatClampNeg).toInt ≤ 40 := ht.2 27 _
        have i_18 := i_nle rfl rfl c6
        have g_19 : (-1 : Int32).toInt = -1 := by decide
        refine s_X9_told ((-1 : Int32)) z1 _ tz1  (fun r12 z11 tz11 o_21 hp_20 => ?_)
        have oz11 : Same [0, 1] [28] z z11 := oz1.tr o_21 (by decide) (by decide)
        have xz11 : RN z11 := RN_same xz1 o_21 (by decide) (by decide)
        exact hk r12 z11 tz11 oz11 xz11 trivial
    · subst er4
      have f_22 : 0 ≤ (gI z1 43).toInt ∧ (gI z1 43).toInt ≤ 6 := tz1.1 43
      have q_23 := (show (gI z1 43).toInt = (gI z 43).toInt by rw [ez1]; rfl)
      have f_24 : 0 ≤ (gI z 43).toInt ∧ (gI z 43).toInt ≤ 6 := ht.1 43
      refine ⟨fun hc => absurd hc (by decide), fun _ => ?_⟩
      have g_25 : (-2 : Int32).toInt = -2 := by decide
      refine s_X9_told ((-2 : Int32)) z1 _ tz1  (fun r14 z13 tz13 o_27 hp_26 => ?_)
      have oz13 : Same [0, 1] [28] z z13 := oz1.tr o_27 (by decide) (by decide)
      have xz13 : RN z13 := RN_same xz1 o_27 (by decide) (by decide)
      exact hk r14 z13 tz13 oz13 xz13 trivial
  · skip
    have i_28 := i_nle (show (0 : Int32).toInt = 0 by decide) rfl c2
    have g_29 : (-1 : Int32).toInt = -1 := by decide
    refine s_X9_told ((-1 : Int32)) z1 _ tz1  (fun r16 z15 tz15 o_31 hp_30 => ?_)
    have oz15 : Same [0, 1] [28] z z15 := oz1.tr o_31 (by decide) (by decide)
    have xz15 : RN z15 := RN_same xz1 o_31 (by decide) (by decide)
    exact hk r16 z15 tz15 oz15 xz15 trivial

