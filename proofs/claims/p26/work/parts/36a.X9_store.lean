set_option maxHeartbeats 2000000 in
theorem s3_X9_store (b1 : Int32) (b2 : Int32) (b3 : Int32) (b4 : Int32) (b5 : Int32) (b6 : Int32) (b7 : Int32) (z : St) (P : Int32 → St → Prop) (ht : TM z) (hrx : RN z)  (hk : ∀ (r : Int32) (z2 : St), TM z2 → Same [0, 1, 43] [26, 27, 28, 29, 30, 31, 32] z z2 → RN z2 → ((r.toInt = -1 ∧ (gI z2 43).toInt = (gI z 43).toInt ∧ ¬ GS b2 b3 b4 b5 b6 b7) ∨ (r.toInt = -2 ∧ (gI z2 43).toInt = (gI z 43).toInt ∧ (b1.toInt < 0 ∨ (gI z 8).toInt ≤ b1.toInt) ∧ GS b2 b3 b4 b5 b6 b7) ∨ (r.toInt = -5 ∧ (gI z2 43).toInt = (gI z 43).toInt ∧ (0 ≤ b1.toInt ∧ b1.toInt < (gI z 8).toInt) ∧ (gI z 43).toInt = 6 ∧ GS b2 b3 b4 b5 b6 b7) ∨ (r.toInt = (gI z 43).toInt ∧ (gI z2 43).toInt = (gI z 43).toInt + 1 ∧ (0 ≤ b1.toInt ∧ b1.toInt < (gI z 8).toInt) ∧ (gI z 43).toInt < 6 ∧ GS b2 b3 b4 b5 b6 b7)) → P r z2) : wp_X9_store b1 b2 b3 b4 b5 b6 b7 z P := by
  unfold wp_X9_store
  intro z1 ez1
  have tz1 : TM z1 := by rw [ez1]; exact Ty_wI ht trivial
  have oz1 : Same [0, 1, 43] [26, 27, 28, 29, 30, 31, 32] z z1 := (Same.rf (z := z)).i (by decide) ez1
  have xz1 : RN z1 := by rw [ez1]; exact hrx
  have g_1 : (Int32.toInt64 b2).toInt = b2.toInt := (a_wide rfl)
  have g_2 : (1 : Int64).toInt = 1 := by decide
  have g_3 : (40 : Int64).toInt = 40 := by decide
  refine s_X9_in (Int32.toInt64 b2) ((1 : Int64)) ((40 : Int64)) z1 _ tz1  (fun r3 hp_4 => ?_)
  rcases hp_4 with ⟨er3, hp_4⟩ | ⟨er3, hp_4⟩
  · subst er3
    intro K4 hK_5
    refine ⟨fun hc => absurd hc (by decide), fun _ => ?_⟩
    have g_6 : (Int32.toInt64 b3).toInt = b3.toInt := (a_wide rfl)
    have g_7 : (0 : Int64).toInt = 0 := by decide
    have g_8 : (Int32.toInt64 b2).toInt = b2.toInt := (a_wide rfl)
    refine s_X9_in (Int32.toInt64 b3) ((0 : Int64)) (Int32.toInt64 b2) z1 _ tz1  (fun r9 hp_9 => ?_)
    rcases hp_9 with ⟨er9, hp_9⟩ | ⟨er9, hp_9⟩
    · subst er9
      refine ⟨fun hc => absurd hc (by decide), fun _ => ?_⟩
      have g_10 : (Int32.toInt64 b4).toInt = b4.toInt := (a_wide rfl)
      have g_11 : (0 : Int64).toInt = 0 := by decide
      have g_12 : (10 : Int64).toInt = 10 := by decide
      refine s_X9_in (Int32.toInt64 b4) ((0 : Int64)) ((10 : Int64)) z1 _ tz1  (fun r12 hp_13 => ?_)
      rcases hp_13 with ⟨er12, hp_13⟩ | ⟨er12, hp_13⟩
      · subst er12
        refine ⟨fun hc => absurd hc (by decide), fun _ => ?_⟩
        have g_14 : (Int32.toInt64 b5).toInt = b5.toInt := (a_wide rfl)
        have g_15 : (0 : Int64).toInt = 0 := by decide
        have g_16 : (10 : Int64).toInt = 10 := by decide
        refine s_X9_in (Int32.toInt64 b5) ((0 : Int64)) ((10 : Int64)) z1 _ tz1  (fun r15 hp_17 => ?_)
        rcases hp_17 with ⟨er15, hp_17⟩ | ⟨er15, hp_17⟩
        · subst er15
          refine ⟨fun hc => absurd hc (by decide), fun _ => ?_⟩
          have g_18 : (Int32.toInt64 b6).toInt = b6.toInt := (a_wide rfl)
          have g_19 : (0 : Int64).toInt = 0 := by decide
          have g_20 : (3 : Int64).toInt = 3 := by decide
          refine s_X9_in (Int32.toInt64 b6) ((0 : Int64)) ((3 : Int64)) z1 _ tz1  (fun r18 hp_21 => ?_)
          rcases hp_21 with ⟨er18, hp_21⟩ | ⟨er18, hp_21⟩
          · subst er18
            refine ⟨fun hc => absurd hc (by decide), fun _ => ?_⟩
            have g_22 : (Int32.toInt64 b7).toInt = b7.toInt := (a_wide rfl)
            have g_23 : (1 : Int64).toInt = 1 := by decide
            have g_24 : (1000 : Int64).toInt = 1000 := by decide
            refine s_X9_in (Int32.toInt64 b7) ((1 : Int64)) ((1000 : Int64)) z1 _ tz1  (fun r21 hp_25 => ?_)
            rcases hp_25 with ⟨er21, hp_25⟩ | ⟨er21, hp_25⟩
            · subst er21
              refine ⟨fun _ => ?_, fun hc => absurd hc (by decide)⟩
              refine s_X9_isHome b1 z1 _ tz1  (fun r24 hp_26 => ?_)
              rcases hp_26 with ⟨er24, hp_26⟩ | ⟨er24, hp_26⟩
              · subst er24
                have f_27 : 0 ≤ (gI z1 8).toInt ∧ (gI z1 8).toInt ≤ 4 := tz1.1 8
                have q_28 := (show (gI z1 8).toInt = (gI z 8).toInt by rw [ez1]; rfl)
                have f_29 : 0 ≤ (gI z 8).toInt ∧ (gI z 8).toInt ≤ 4 := ht.1 8
                refine ⟨fun _ => ?_, fun hc => absurd hc (by decide)⟩
                refine ⟨fun c26 => ?_, fun c26 => ?_⟩
                · skip
                  have f_30 : 0 ≤ (gI z1 43).toInt ∧ (gI z1 43).toInt ≤ 6 := tz1.1 43
                  have q_31 := (show (gI z1 43).toInt = (gI z 43).toInt by rw [ez1]; rfl)
                  have f_32 : 0 ≤ (gI z 43).toInt ∧ (gI z 43).toInt ≤ 6 := ht.1 43
                  have i_33 := i_ne rfl (show (6 : Int32).toInt = 6 by decide) c26
                  refine ⟨vin rfl (by omega) (by omega), ?_⟩
                  intro z27 ez27
                  have tz27 : TM z27 := by rw [ez27]; exact Ty_wR tz1 (show 0 ≤ b1.toInt ∧ b1.toInt ≤ 3 from by omega)
                  have oz27 : Same [0, 1, 43] [26, 27, 28, 29, 30, 31, 32] z z27 := oz1.r (by decide) ez27
                  have xz27 : RN z27 := by rw [ez27]; exact xz1
                  have f_34 : 0 ≤ (gI z27 43).toInt ∧ (gI z27 43).toInt ≤ 6 := tz27.1 43
                  have q_35 := ((show (gI z27 43).toInt = (gI z1 43).toInt by rw [ez27]; rfl)).trans (show (gI z1 43).toInt = (gI z 43).toInt by rw [ez1]; rfl)
                  refine ⟨vin rfl (by omega) (by omega), ?_⟩
                  intro z28 ez28
                  have tz28 : TM z28 := by rw [ez28]; exact Ty_wR tz27 (show 0 ≤ b2.toInt ∧ b2.toInt ≤ 40 from by omega)
                  have oz28 : Same [0, 1, 43] [26, 27, 28, 29, 30, 31, 32] z z28 := oz27.r (by decide) ez28
                  have f_36 : 0 ≤ (gI z28 43).toInt ∧ (gI z28 43).toInt ≤ 6 := tz28.1 43
                  have q_37 := (((show (gI z28 43).toInt = (gI z27 43).toInt by rw [ez28]; rfl)).trans (show (gI z27 43).toInt = (gI z1 43).toInt by rw [ez27]; rfl)).trans (show (gI z1 43).toInt = (gI z 43).toInt by rw [ez1]; rfl)
                  refine ⟨vin rfl (by omega) (by omega), ?_⟩
                  intro z29 ez29
                  have tz29 : TM z29 := by rw [ez29]; exact Ty_wR tz28 (show 0 ≤ b3.toInt ∧ b3.toInt ≤ 40 from by omega)
                  have oz29 : Same [0, 1, 43] [26, 27, 28, 29, 30, 31, 32] z z29 := oz28.r (by decide) ez29
                  have xz29 : RN z29 := RN_store xz27 ez28 ez29 (by rw [ez28]; rfl) (by omega)
                  have f_38 : 0 ≤ (gI z29 43).toInt ∧ (gI z29 43).toInt ≤ 6 := tz29.1 43
                  have q_39 := ((((show (gI z29 43).toInt = (gI z28 43).toInt by rw [ez29]; rfl)).trans (show (gI z28 43).toInt = (gI z27 43).toInt by rw [ez28]; rfl)).trans (show (gI z27 43).toInt = (gI z1 43).toInt by rw [ez27]; rfl)).trans (show (gI z1 43).toInt = (gI z 43).toInt by rw [ez1]; rfl)
                  refine ⟨vin rfl (by omega) (by omega), ?_⟩
                  intro z30 ez30
                  have tz30 : TM z30 := by rw [ez30]; exact Ty_wR tz29 (show 0 ≤ b4.toInt ∧ b4.toInt ≤ 10 from by omega)
                  have oz30 : Same [0, 1, 43] [26, 27, 28, 29, 30, 31, 32] z z30 := oz29.r (by decide) ez30
                  have xz30 : RN z30 := by rw [ez30]; exact xz29
                  have f_40 : 0 ≤ (gI z30 43).toInt ∧ (gI z30 43).toInt ≤ 6 := tz30.1 43
                  have q_41 := (((((show (gI z30 43).toInt = (gI z29 43).toInt by rw [ez30]; rfl)).trans (show (gI z29 43).toInt = (gI z28 43).toInt by rw [ez29]; rfl)).trans (show (gI z28 43).toInt = (gI z27 43).toInt by rw [ez28]; rfl)).trans (show (gI z27 43).toInt = (gI z1 43).toInt by rw [ez27]; rfl)).trans (show (gI z1 43).toInt = (gI z 43).toInt by rw [ez1]; rfl)
                  refine ⟨vin rfl (by omega) (by omega), ?_⟩
                  intro z31 ez31
                  have tz31 : TM z31 := by rw [ez31]; exact Ty_wR tz30 (show 0 ≤ b5.toInt ∧ b5.toInt ≤ 10 from by omega)
                  have oz31 : Same [0, 1, 43] [26, 27, 28, 29, 30, 31, 32] z z31 := oz30.r (by decide) ez31
                  have xz31 : RN z31 := by rw [ez31]; exact xz30
                  have f_42 : 0 ≤ (gI z31 43).toInt ∧ (gI z31 43).toInt ≤ 6 := tz31.1 43
                  have q_43 := ((((((show (gI z31 43).toInt = (gI z30 43).toInt by rw [ez31]; rfl)).trans (show (gI z30 43).toInt = (gI z29 43).toInt by rw [ez30]; rfl)).trans (show (gI z29 43).toInt = (gI z28 43).toInt by rw [ez29]; rfl)).trans (show (gI z28 43).toInt = (gI z27 43).toInt by rw [ez28]; rfl)).trans (show (gI z27 43).toInt = (gI z1 43).toInt by rw [ez27]; rfl)).trans (show (gI z1 43).toInt = (gI z 43).toInt by rw [ez1]; rfl)
                  refine ⟨vin rfl (by omega) (by omega), ?_⟩
                  intro z32 ez32
                  have tz32 : TM z32 := by rw [ez32]; exact Ty_wR tz31 (show 0 ≤ b6.toInt ∧ b6.toInt ≤ 3 from by omega)
                  have oz32 : Same [0, 1, 43] [26, 27, 28, 29, 30, 31, 32] z z32 := oz31.r (by decide) ez32
                  have xz32 : RN z32 := by rw [ez32]; exact xz31
                  have f_44 : 0 ≤ (gI z32 43).toInt ∧ (gI z32 43).toInt ≤ 6 := tz32.1 43
                  have q_45 := (((((((show (gI z32 43).toInt = (gI z31 43).toInt by rw [ez32]; rfl)).trans (show (gI z31 43).toInt = (gI z30 43).toInt by rw [ez31]; rfl)).trans (show (gI z30 43).toInt = (gI z29 43).toInt by rw [ez30]; rfl)).trans (show (gI z29 43).toInt = (gI z28 43).toInt by rw [ez29]; rfl)).trans (show (gI z28 43).toInt = (gI z27 43).toInt by rw [ez28]; rfl)).trans (show (gI z27 43).toInt = (gI z1 43).toInt by rw [ez27]; rfl)).trans (show (gI z1 43).toInt = (gI z 43).toInt by rw [ez1]; rfl)
                  refine ⟨vin rfl (by omega) (by omega), ?_⟩
                  intro z33 ez33
                  have tz33 : TM z33 := by rw [ez33]; exact Ty_wR tz32 trivial
                  have oz33 : Same [0, 1, 43] [26, 27, 28, 29, 30, 31, 32] z z33 := oz32.r (by decide) ez33
                  have xz33 : RN z33 := by rw [ez33]; exact xz32
                  intro z34 ez34
                  have f_46 : 0 ≤ (gI z33 43).toInt ∧ (gI z33 43).toInt ≤ 6 := tz33.1 43
                  have q_47 := ((((((((show (gI z33 43).toInt = (gI z32 43).toInt by rw [ez33]; rfl)).trans (show (gI z32 43).toInt = (gI z31 43).toInt by rw [ez32]; rfl)).trans (show (gI z31 43).toInt = (gI z30 43).toInt by rw [ez31]; rfl)).trans (show (gI z30 43).toInt = (gI z29 43).toInt by rw [ez30]; rfl)).trans (show (gI z29 43).toInt = (gI z28 43).toInt by rw [ez29]; rfl)).trans (show (gI z28 43).toInt = (gI z27 43).toInt by rw [ez28]; rfl)).trans (show (gI z27 43).toInt = (gI z1 43).toInt by rw [ez27]; rfl)).trans (show (gI z1 43).toInt = (gI z 43).toInt by rw [ez1]; rfl)
                  have tz34 : TM z34 := by rw [ez34]; exact Ty_wI tz33 (show 0 ≤ ((gI z33 43) + (1 : Int32)).toInt ∧ ((gI z33 43) + (1 : Int32)).toInt ≤ 6 from by rw [(a_add rfl (show (1 : Int32).toInt = 1 by decide) (by omega) (by omega))]; omega)
                  have oz34 : Same [0, 1, 43] [26, 27, 28, 29, 30, 31, 32] z z34 := oz33.i (by decide) ez34
                  have xz34 : RN z34 := by rw [ez34]; exact xz33
                  have f_48 : 0 ≤ (gI z34 43).toInt ∧ (gI z34 43).toInt ≤ 6 := tz34.1 43
                  have q_49 := (show (gI z34 43).toInt = ((gI z33 43) + (1 : Int32)).toInt by rw [ez34]; rfl)
                  have q_50 : ((gI z33 43) + (1 : Int32)).toInt = ((gI z33 43).toInt + (1)) := (a_add rfl (show (1 : Int32).toInt = 1 by decide) (by omega) (by omega))
                  have g_51 : ((gI z34 43) - (1 : Int32)).toInt = ((gI z34 43).toInt - (1)) := (a_sub rfl (show (1 : Int32).toInt = 1 by decide) (by omega) (by omega))
                  refine s_X9_told ((gI z34 43) - ((1 : Int32))) z34 _ tz34  (fun r36 z35 tz35 o_53 hp_52 => ?_)
                  have oz35 : Same [0, 1, 43] [26, 27, 28, 29, 30, 31, 32] z z35 := oz34.tr o_53 (by decide) (by decide)
                  have xz35 : RN z35 := RN_same xz34 o_53 (by decide) (by decide)
                  have f_54 : 0 ≤ (gI z35 43).toInt ∧ (gI z35 43).toInt ≤ 6 := tz35.1 43
                  have q_55 := ((o_53.fi 43 (by decide))).trans (show (gI z34 43).toInt = ((gI z33 43) + (1 : Int32)).toInt by rw [ez34]; rfl)
                  have q_56 : ((gI z33 43) + (1 : Int32)).toInt = ((gI z33 43).toInt + (1)) := (a_add rfl (show (1 : Int32).toInt = 1 by decide) (by omega) (by omega))
                  exact hk r36 z35 tz35 oz35 xz35 (by first | exact Or.inl ⟨(by omega), (by omega), fun g => by unfold GS at g; omega⟩ | exact Or.inr (Or.inl ⟨(by omega), (by omega), (by omega), (by unfold GS; exact ⟨by omega, by omega, by omega, by omega, by omega, by omega⟩)⟩) | exact Or.inr (Or.inr (Or.inl ⟨(by omega), (by omega), (by omega), (by omega), (by unfold GS; exact ⟨by omega, by omega, by omega, by omega, by omega, by omega⟩)⟩)) | exact Or.inr (Or.inr (Or.inr ⟨(by omega), (by omega), (by omega), (by omega), (by unfold GS; exact ⟨by omega, by omega, by omega, by omega, by omega, by omega⟩)⟩)))
                · skip
                  have f_57 : 0 ≤ (gI z1 43).toInt ∧ (gI z1 43).toInt ≤ 6 := tz1.1 43
                  have q_58 := (show (gI z1 43).toInt = (gI z 43).toInt by rw [ez1]; rfl)
                  have f_59 : 0 ≤ (gI z 43).toInt ∧ (gI z 43).toInt ≤ 6 := ht.1 43
                  have i_60 := i_eq rfl (show (6 : Int32).toInt = 6 by decide) c26
                  have g_61 : (-5 : Int32).toInt = -5 := by decide
                  refine s_X9_told ((-5 : Int32)) z1 _ tz1  (fun r38 z37 tz37 o_63 hp_62 => ?_)
                  have oz37 : Same [0, 1, 43] [26, 27, 28, 29, 30, 31, 32] z z37 := oz1.tr o_63 (by decide) (by decide)
                  have xz37 : RN z37 := RN_same xz1 o_63 (by decide) (by decide)
                  have f_64 : 0 ≤ (gI z37 43).toInt ∧ (gI z37 43).toInt ≤ 6 := tz37.1 43
                  have q_65 := ((o_63.fi 43 (by decide))).trans (show (gI z1 43).toInt = (gI z 43).toInt by rw [ez1]; rfl)
                  exact hk r38 z37 tz37 oz37 xz37 (by first | exact Or.inl ⟨(by omega), (by omega), fun g => by unfold GS at g; omega⟩ | exact Or.inr (Or.inl ⟨(by omega), (by omega), (by omega), (by unfold GS; exact ⟨by omega, by omega, by omega, by omega, by omega, by omega⟩)⟩) | exact Or.inr (Or.inr (Or.inl ⟨(by omega), (by omega), (by omega), (by omega), (by unfold GS; exact ⟨by omega, by omega, by omega, by omega, by omega, by omega⟩)⟩)) | exact Or.inr (Or.inr (Or.inr ⟨(by omega), (by omega), (by omega), (by omega), (by unfold GS; exact ⟨by omega, by omega, by omega, by omega, by omega, by omega⟩)⟩)))
              · subst er24
                have f_66 : 0 ≤ (gI z1 8).toInt ∧ (gI z1 8).toInt ≤ 4 := tz1.1 8
                have q_67 := (show (gI z1 8).toInt = (gI z 8).toInt by rw [ez1]; rfl)
                have f_68 : 0 ≤ (gI z 8).toInt ∧ (gI z 8).toInt ≤ 4 := ht.1 8
                refine ⟨fun hc => absurd hc (by decide), fun _ => ?_⟩
                have g_69 : (-2 : Int32).toInt = -2 := by decide
                refine s_X9_told ((-2 : Int32)) z1 _ tz1  (fun r40 z39 tz39 o_71 hp_70 => ?_)
                have oz39 : Same [0, 1, 43] [26, 27, 28, 29, 30, 31, 32] z z39 := oz1.tr o_71 (by decide) (by decide)
                have xz39 : RN z39 := RN_same xz1 o_71 (by decide) (by decide)
                have f_72 : 0 ≤ (gI z39 43).toInt ∧ (gI z39 43).toInt ≤ 6 := tz39.1 43
                have q_73 := ((o_71.fi 43 (by decide))).trans (show (gI z1 43).toInt = (gI z 43).toInt by rw [ez1]; rfl)
                have f_74 : 0 ≤ (gI z 43).toInt ∧ (gI z 43).toInt ≤ 6 := ht.1 43
                exact hk r40 z39 tz39 oz39 xz39 (by first | exact Or.inl ⟨(by omega), (by omega), fun g => by unfold GS at g; omega⟩ | exact Or.inr (Or.inl ⟨(by omega), (by omega), (by omega), (by unfold GS; exact ⟨by omega, by omega, by omega, by omega, by omega, by omega⟩)⟩) | exact Or.inr (Or.inr (Or.inl ⟨(by omega), (by omega), (by omega), (by omega), (by unfold GS; exact ⟨by omega, by omega, by omega, by omega, by omega, by omega⟩)⟩)) | exact Or.inr (Or.inr (Or.inr ⟨(by omega), (by omega), (by omega), (by omega), (by unfold GS; exact ⟨by omega, by omega, by omega, by omega, by omega, by omega⟩)⟩)))
            · subst er21
              refine ⟨fun hc => absurd hc (by decide), fun _ => ?_⟩
              refine hK_5  ?_
              have g_77 : (-1 : Int32).toInt = -1 := by decide
              refine s_X9_told ((-1 : Int32)) z1 _ tz1  (fun r_75 z_76 tz_76 o_79 hp_78 => ?_)
              have oz_76 : Same [0, 1, 43] [26, 27, 28, 29, 30, 31, 32] z z_76 := oz1.tr o_79 (by decide) (by decide)
              have xz_76 : RN z_76 := RN_same xz1 o_79 (by decide) (by decide)
              have f_80 : 0 ≤ (gI z_76 43).toInt ∧ (gI z_76 43).toInt ≤ 6 := tz_76.1 43
              have q_81 := ((o_79.fi 43 (by decide))).trans (show (gI z1 43).toInt = (gI z 43).toInt by rw [ez1]; rfl)
              have f_82 : 0 ≤ (gI z 43).toInt ∧ (gI z 43).toInt ≤ 6 := ht.1 43
              have f_83 : 0 ≤ (gI z 8).toInt ∧ (gI z 8).toInt ≤ 4 := ht.1 8
              exact hk r_75 z_76 tz_76 oz_76 xz_76 (by first | exact Or.inl ⟨(by omega), (by omega), fun g => by unfold GS at g; omega⟩ | exact Or.inr (Or.inl ⟨(by omega), (by omega), (by omega), (by unfold GS; exact ⟨by omega, by omega, by omega, by omega, by omega, by omega⟩)⟩) | exact Or.inr (Or.inr (Or.inl ⟨(by omega), (by omega), (by omega), (by omega), (by unfold GS; exact ⟨by omega, by omega, by omega, by omega, by omega, by omega⟩)⟩)) | exact Or.inr (Or.inr (Or.inr ⟨(by omega), (by omega), (by omega), (by omega), (by unfold GS; exact ⟨by omega, by omega, by omega, by omega, by omega, by omega⟩)⟩)))
          · subst er18
            refine ⟨fun _ => ?_, fun hc => absurd (show ((0 : Int32)) = ((0 : Int32)) by decide) hc⟩
            refine hK_5  ?_
            have g_86 : (-1 : Int32).toInt = -1 := by decide
            refine s_X9_told ((-1 : Int32)) z1 _ tz1  (fun r_84 z_85 tz_85 o_88 hp_87 => ?_)
            have oz_85 : Same [0, 1, 43] [26, 27, 28, 29, 30, 31, 32] z z_85 := oz1.tr o_88 (by decide) (by decide)
            have xz_85 : RN z_85 := RN_same xz1 o_88 (by decide) (by decide)
            have f_89 : 0 ≤ (gI z_85 43).toInt ∧ (gI z_85 43).toInt ≤ 6 := tz_85.1 43
            have q_90 := ((o_88.fi 43 (by decide))).trans (show (gI z1 43).toInt = (gI z 43).toInt by rw [ez1]; rfl)
            have f_91 : 0 ≤ (gI z 43).toInt ∧ (gI z 43).toInt ≤ 6 := ht.1 43
            have f_92 : 0 ≤ (gI z 8).toInt ∧ (gI z 8).toInt ≤ 4 := ht.1 8
            exact hk r_84 z_85 tz_85 oz_85 xz_85 (by first | exact Or.inl ⟨(by omega), (by omega), fun g => by unfold GS at g; omega⟩ | exact Or.inr (Or.inl ⟨(by omega), (by omega), (by omega), (by unfold GS; exact ⟨by omega, by omega, by omega, by omega, by omega, by omega⟩)⟩) | exact Or.inr (Or.inr (Or.inl ⟨(by omega), (by omega), (by omega), (by omega), (by unfold GS; exact ⟨by omega, by omega, by omega, by omega, by omega, by omega⟩)⟩)) | exact Or.inr (Or.inr (Or.inr ⟨(by omega), (by omega), (by omega), (by omega), (by unfold GS; exact ⟨by omega, by omega, by omega, by omega, by omega, by omega⟩)⟩)))
        · subst er15
          refine ⟨fun _ => ?_, fun hc => absurd (show ((0 : Int32)) = ((0 : Int32)) by decide) hc⟩
          refine hK_5  ?_
          have g_95 : (-1 : Int32).toInt = -1 := by decide
          refine s_X9_told ((-1 : Int32)) z1 _ tz1  (fun r_93 z_94 tz_94 o_97 hp_96 => ?_)
          have oz_94 : Same [0, 1, 43] [26, 27, 28, 29, 30, 31, 32] z z_94 := oz1.tr o_97 (by decide) (by decide)
          have xz_94 : RN z_94 := RN_same xz1 o_97 (by decide) (by decide)
          have f_98 : 0 ≤ (gI z_94 43).toInt ∧ (gI z_94 43).toInt ≤ 6 := tz_94.1 43
          have q_99 := ((o_97.fi 43 (by decide))).trans (show (gI z1 43).toInt = (gI z 43).toInt by rw [ez1]; rfl)
          have f_100 : 0 ≤ (gI z 43).toInt ∧ (gI z 43).toInt ≤ 6 := ht.1 43
          have f_101 : 0 ≤ (gI z 8).toInt ∧ (gI z 8).toInt ≤ 4 := ht.1 8
          exact hk r_93 z_94 tz_94 oz_94 xz_94 (by first | exact Or.inl ⟨(by omega), (by omega), fun g => by unfold GS at g; omega⟩ | exact Or.inr (Or.inl ⟨(by omega), (by omega), (by omega), (by unfold GS; exact ⟨by omega, by omega, by omega, by omega, by omega, by omega⟩)⟩) | exact Or.inr (Or.inr (Or.inl ⟨(by omega), (by omega), (by omega), (by omega), (by unfold GS; exact ⟨by omega, by omega, by omega, by omega, by omega, by omega⟩)⟩)) | exact Or.inr (Or.inr (Or.inr ⟨(by omega), (by omega), (by omega), (by omega), (by unfold GS; exact ⟨by omega, by omega, by omega, by omega, by omega, by omega⟩)⟩)))
      · subst er12
        refine ⟨fun _ => ?_, fun hc => absurd (show ((0 : Int32)) = ((0 : Int32)) by decide) hc⟩
        refine hK_5  ?_
        have g_104 : (-1 : Int32).toInt = -1 := by decide
        refine s_X9_told ((-1 : Int32)) z1 _ tz1  (fun r_102 z_103 tz_103 o_106 hp_105 => ?_)
        have oz_103 : Same [0, 1, 43] [26, 27, 28, 29, 30, 31, 32] z z_103 := oz1.tr o_106 (by decide) (by decide)
        have xz_103 : RN z_103 := RN_same xz1 o_106 (by decide) (by decide)
        have f_107 : 0 ≤ (gI z_103 43).toInt ∧ (gI z_103 43).toInt ≤ 6 := tz_103.1 43
        have q_108 := ((o_106.fi 43 (by decide))).trans (show (gI z1 43).toInt = (gI z 43).toInt by rw [ez1]; rfl)
        have f_109 : 0 ≤ (gI z 43).toInt ∧ (gI z 43).toInt ≤ 6 := ht.1 43
        have f_110 : 0 ≤ (gI z 8).toInt ∧ (gI z 8).toInt ≤ 4 := ht.1 8
        exact hk r_102 z_103 tz_103 oz_103 xz_103 (by first | exact Or.inl ⟨(by omega), (by omega), fun g => by unfold GS at g; omega⟩ | exact Or.inr (Or.inl ⟨(by omega), (by omega), (by omega), (by unfold GS; exact ⟨by omega, by omega, by omega, by omega, by omega, by omega⟩)⟩) | exact Or.inr (Or.inr (Or.inl ⟨(by omega), (by omega), (by omega), (by omega), (by unfold GS; exact ⟨by omega, by omega, by omega, by omega, by omega, by omega⟩)⟩)) | exact Or.inr (Or.inr (Or.inr ⟨(by omega), (by omega), (by omega), (by omega), (by unfold GS; exact ⟨by omega, by omega, by omega, by omega, by omega, by omega⟩)⟩)))
    · subst er9
      refine ⟨fun _ => ?_, fun hc => absurd (show ((0 : Int32)) = ((0 : Int32)) by decide) hc⟩
      refine hK_5  ?_
      have g_113 : (-1 : Int32).toInt = -1 := by decide
      refine s_X9_told ((-1 : Int32)) z1 _ tz1  (fun r_111 z_112 tz_112 o_115 hp_114 => ?_)
      have oz_112 : Same [0, 1, 43] [26, 27, 28, 29, 30, 31, 32] z z_112 := oz1.tr o_115 (by decide) (by decide)
      have xz_112 : RN z_112 := RN_same xz1 o_115 (by decide) (by decide)
      have f_116 : 0 ≤ (gI z_112 43).toInt ∧ (gI z_112 43).toInt ≤ 6 := tz_112.1 43
      have q_117 := ((o_115.fi 43 (by decide))).trans (show (gI z1 43).toInt = (gI z 43).toInt by rw [ez1]; rfl)
      have f_118 : 0 ≤ (gI z 43).toInt ∧ (gI z 43).toInt ≤ 6 := ht.1 43
      have f_119 : 0 ≤ (gI z 8).toInt ∧ (gI z 8).toInt ≤ 4 := ht.1 8
      exact hk r_111 z_112 tz_112 oz_112 xz_112 (by first | exact Or.inl ⟨(by omega), (by omega), fun g => by unfold GS at g; omega⟩ | exact Or.inr (Or.inl ⟨(by omega), (by omega), (by omega), (by unfold GS; exact ⟨by omega, by omega, by omega, by omega, by omega, by omega⟩)⟩) | exact Or.inr (Or.inr (Or.inl ⟨(by omega), (by omega), (by omega), (by omega), (by unfold GS; exact ⟨by omega, by omega, by omega, by omega, by omega, by omega⟩)⟩)) | exact Or.inr (Or.inr (Or.inr ⟨(by omega), (by omega), (by omega), (by omega), (by unfold GS; exact ⟨by omega, by omega, by omega, by omega, by omega, by omega⟩)⟩)))
  · subst er3
    intro K4 hK_120
    refine ⟨fun _ => ?_, fun hc => absurd (show ((0 : Int32)) = ((0 : Int32)) by decide) hc⟩
    refine hK_120  ?_
    have g_123 : (-1 : Int32).toInt = -1 := by decide
    refine s_X9_told ((-1 : Int32)) z1 _ tz1  (fun r_121 z_122 tz_122 o_125 hp_124 => ?_)
    have oz_122 : Same [0, 1, 43] [26, 27, 28, 29, 30, 31, 32] z z_122 := oz1.tr o_125 (by decide) (by decide)
    have xz_122 : RN z_122 := RN_same xz1 o_125 (by decide) (by decide)
    have f_126 : 0 ≤ (gI z_122 43).toInt ∧ (gI z_122 43).toInt ≤ 6 := tz_122.1 43
    have q_127 := ((o_125.fi 43 (by decide))).trans (show (gI z1 43).toInt = (gI z 43).toInt by rw [ez1]; rfl)
    have f_128 : 0 ≤ (gI z 43).toInt ∧ (gI z 43).toInt ≤ 6 := ht.1 43
    have f_129 : 0 ≤ (gI z 8).toInt ∧ (gI z 8).toInt ≤ 4 := ht.1 8
    exact hk r_121 z_122 tz_122 oz_122 xz_122 (by first | exact Or.inl ⟨(by omega), (by omega), fun g => by unfold GS at g; omega⟩ | exact Or.inr (Or.inl ⟨(by omega), (by omega), (by omega), (by unfold GS; exact ⟨by omega, by omega, by omega, by omega, by omega, by omega⟩)⟩) | exact Or.inr (Or.inr (Or.inl ⟨(by omega), (by omega), (by omega), (by omega), (by unfold GS; exact ⟨by omega, by omega, by omega, by omega, by omega, by omega⟩)⟩)) | exact Or.inr (Or.inr (Or.inr ⟨(by omega), (by omega), (by omega), (by omega), (by unfold GS; exact ⟨by omega, by omega, by omega, by omega, by omega, by omega⟩)⟩)))

