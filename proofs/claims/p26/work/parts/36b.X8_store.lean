set_option maxHeartbeats 2000000 in
theorem s3_X8_store (b1 : Int32) (b2 : Int32) (b3 : Int32) (b4 : Int32) (b5 : Int32) (b6 : Int32) (b7 : Int32) (z : St) (P : Int32 → St → Prop) (ht : TX z)  (hk : ∀ (r : Int32) (z2 : St), TX z2 → Same [8, 3909] [40, 41, 42, 43, 44, 45, 46] z z2 → ((r.toInt = -1 ∧ (gI z2 3909).toInt = (gI z 3909).toInt ∧ ¬ GS b2 b3 b4 b5 b6 b7) ∨ (r.toInt = -2 ∧ (gI z2 3909).toInt = (gI z 3909).toInt ∧ (b1.toInt < 0 ∨ (gI z 705).toInt ≤ b1.toInt) ∧ GS b2 b3 b4 b5 b6 b7) ∨ (r.toInt = -5 ∧ (gI z2 3909).toInt = (gI z 3909).toInt ∧ (0 ≤ b1.toInt ∧ b1.toInt < (gI z 705).toInt) ∧ (gI z 3909).toInt = 6 ∧ GS b2 b3 b4 b5 b6 b7) ∨ (r.toInt = (gI z 3909).toInt ∧ (gI z2 3909).toInt = (gI z 3909).toInt + 1 ∧ (0 ≤ b1.toInt ∧ b1.toInt < (gI z 705).toInt) ∧ (gI z 3909).toInt < 6 ∧ GS b2 b3 b4 b5 b6 b7)) → P r z2) : wp_X8_store b1 b2 b3 b4 b5 b6 b7 z P := by
  unfold wp_X8_store
  intro K1 hK_1
  refine ⟨fun c4 => ?_, fun c4 => ?_⟩
  · skip
    have i_2 := i_lt rfl (show (1 : Int32).toInt = 1 by decide) c4
    refine hK_1  ?_
    have g_5 : (-1 : Int32).toInt = -1 := by decide
    refine s_X8_refuse ((-1 : Int32)) z _ ht  (fun r_3 z_4 tz_4 o_7 hp_6 => ?_)
    have oz_4 : Same [8, 3909] [40, 41, 42, 43, 44, 45, 46] z z_4 := (Same.rf (z := z)).tr o_7 (by decide) (by decide)
    have f_8 : 0 ≤ (gI z_4 3909).toInt ∧ (gI z_4 3909).toInt ≤ 6 := tz_4.1 3909
    have q_9 := (o_7.fi 3909 (by decide))
    have f_10 : 0 ≤ (gI z 3909).toInt ∧ (gI z 3909).toInt ≤ 6 := ht.1 3909
    have f_11 : 0 ≤ (gI z 705).toInt ∧ (gI z 705).toInt ≤ 4 := ht.1 705
    exact hk r_3 z_4 tz_4 oz_4 (by first | exact Or.inl ⟨(by omega), (by omega), fun g => by unfold GS at g; omega⟩ | exact Or.inr (Or.inl ⟨(by omega), (by omega), (by omega), (by unfold GS; exact ⟨by omega, by omega, by omega, by omega, by omega, by omega⟩)⟩) | exact Or.inr (Or.inr (Or.inl ⟨(by omega), (by omega), (by omega), (by omega), (by unfold GS; exact ⟨by omega, by omega, by omega, by omega, by omega, by omega⟩)⟩)) | exact Or.inr (Or.inr (Or.inr ⟨(by omega), (by omega), (by omega), (by omega), (by unfold GS; exact ⟨by omega, by omega, by omega, by omega, by omega, by omega⟩)⟩)))
  · skip
    have i_12 := i_nlt rfl (show (1 : Int32).toInt = 1 by decide) c4
    refine ⟨fun c5 => ?_, fun c5 => ?_⟩
    · skip
      have i_13 := i_lt (show (40 : Int32).toInt = 40 by decide) rfl c5
      refine hK_1  ?_
      have g_16 : (-1 : Int32).toInt = -1 := by decide
      refine s_X8_refuse ((-1 : Int32)) z _ ht  (fun r_14 z_15 tz_15 o_18 hp_17 => ?_)
      have oz_15 : Same [8, 3909] [40, 41, 42, 43, 44, 45, 46] z z_15 := (Same.rf (z := z)).tr o_18 (by decide) (by decide)
      have f_19 : 0 ≤ (gI z_15 3909).toInt ∧ (gI z_15 3909).toInt ≤ 6 := tz_15.1 3909
      have q_20 := (o_18.fi 3909 (by decide))
      have f_21 : 0 ≤ (gI z 3909).toInt ∧ (gI z 3909).toInt ≤ 6 := ht.1 3909
      have f_22 : 0 ≤ (gI z 705).toInt ∧ (gI z 705).toInt ≤ 4 := ht.1 705
      exact hk r_14 z_15 tz_15 oz_15 (by first | exact Or.inl ⟨(by omega), (by omega), fun g => by unfold GS at g; omega⟩ | exact Or.inr (Or.inl ⟨(by omega), (by omega), (by omega), (by unfold GS; exact ⟨by omega, by omega, by omega, by omega, by omega, by omega⟩)⟩) | exact Or.inr (Or.inr (Or.inl ⟨(by omega), (by omega), (by omega), (by omega), (by unfold GS; exact ⟨by omega, by omega, by omega, by omega, by omega, by omega⟩)⟩)) | exact Or.inr (Or.inr (Or.inr ⟨(by omega), (by omega), (by omega), (by omega), (by unfold GS; exact ⟨by omega, by omega, by omega, by omega, by omega, by omega⟩)⟩)))
    · skip
      have i_23 := i_nlt (show (40 : Int32).toInt = 40 by decide) rfl c5
      refine s_X8_isWithin b3 b2 z _ ht  (fun r7 hp_24 => ?_)
      rcases hp_24 with ⟨er7, hp_24⟩ | ⟨er7, hp_24⟩
      · subst er7
        refine ⟨fun hc => absurd hc (by decide), fun _ => ?_⟩
        refine ⟨fun c9 => ?_, fun c9 => ?_⟩
        · skip
          have i_25 := i_lt rfl (show (1 : Int32).toInt = 1 by decide) c9
          refine hK_1  ?_
          have g_28 : (-1 : Int32).toInt = -1 := by decide
          refine s_X8_refuse ((-1 : Int32)) z _ ht  (fun r_26 z_27 tz_27 o_30 hp_29 => ?_)
          have oz_27 : Same [8, 3909] [40, 41, 42, 43, 44, 45, 46] z z_27 := (Same.rf (z := z)).tr o_30 (by decide) (by decide)
          have f_31 : 0 ≤ (gI z_27 3909).toInt ∧ (gI z_27 3909).toInt ≤ 6 := tz_27.1 3909
          have q_32 := (o_30.fi 3909 (by decide))
          have f_33 : 0 ≤ (gI z 3909).toInt ∧ (gI z 3909).toInt ≤ 6 := ht.1 3909
          have f_34 : 0 ≤ (gI z 705).toInt ∧ (gI z 705).toInt ≤ 4 := ht.1 705
          exact hk r_26 z_27 tz_27 oz_27 (by first | exact Or.inl ⟨(by omega), (by omega), fun g => by unfold GS at g; omega⟩ | exact Or.inr (Or.inl ⟨(by omega), (by omega), (by omega), (by unfold GS; exact ⟨by omega, by omega, by omega, by omega, by omega, by omega⟩)⟩) | exact Or.inr (Or.inr (Or.inl ⟨(by omega), (by omega), (by omega), (by omega), (by unfold GS; exact ⟨by omega, by omega, by omega, by omega, by omega, by omega⟩)⟩)) | exact Or.inr (Or.inr (Or.inr ⟨(by omega), (by omega), (by omega), (by omega), (by unfold GS; exact ⟨by omega, by omega, by omega, by omega, by omega, by omega⟩)⟩)))
        · skip
          have i_35 := i_nlt rfl (show (1 : Int32).toInt = 1 by decide) c9
          refine ⟨fun c10 => ?_, fun c10 => ?_⟩
          · skip
            have i_36 := i_le rfl (show (1000 : Int32).toInt = 1000 by decide) c10
            have g_37 : (10 : Int32).toInt = 10 := by decide
            refine s_X8_isWithin b4 ((10 : Int32)) z _ ht  (fun r12 hp_38 => ?_)
            rcases hp_38 with ⟨er12, hp_38⟩ | ⟨er12, hp_38⟩
            · subst er12
              intro K13 hK_39
              refine ⟨fun hc => absurd hc (by decide), fun _ => ?_⟩
              have g_40 : (10 : Int32).toInt = 10 := by decide
              refine s_X8_isWithin b5 ((10 : Int32)) z _ ht  (fun r18 hp_41 => ?_)
              rcases hp_41 with ⟨er18, hp_41⟩ | ⟨er18, hp_41⟩
              · subst er18
                refine ⟨fun hc => absurd hc (by decide), fun _ => ?_⟩
                have g_42 : (3 : Int32).toInt = 3 := by decide
                refine s_X8_isWithin b6 ((3 : Int32)) z _ ht  (fun r21 hp_43 => ?_)
                rcases hp_43 with ⟨er21, hp_43⟩ | ⟨er21, hp_43⟩
                · subst er21
                  refine ⟨fun _ => ?_, fun hc => absurd hc (by decide)⟩
                  refine s_X0_has b1 z _ ht  (fun r24 hp_44 => ?_)
                  rcases hp_44 with ⟨er24, hp_44⟩ | ⟨er24, hp_44⟩
                  · subst er24
                    have f_45 : 0 ≤ (gI z 705).toInt ∧ (gI z 705).toInt ≤ 4 := ht.1 705
                    refine ⟨fun _ => ?_, fun hc => absurd hc (by decide)⟩
                    refine ⟨fun c26 => ?_, fun c26 => ?_⟩
                    · skip
                      have f_46 : 0 ≤ (gI z 3909).toInt ∧ (gI z 3909).toInt ≤ 6 := ht.1 3909
                      have i_47 := i_lt rfl (show (6 : Int32).toInt = 6 by decide) c26
                      refine s_X7_add b1 b2 b3 z _ ht (by omega) (by omega) (by omega) (by omega) (fun r28 z27 tz27 o_49 hp_48 => ?_)
                      have oz27 : Same [8, 3909] [40, 41, 42, 43, 44, 45, 46] z z27 := (Same.rf (z := z)).tr o_49 (by decide) (by decide)
                      have f_50 : 0 ≤ (gI z27 3909).toInt ∧ (gI z27 3909).toInt ≤ 6 := tz27.1 3909
                      refine s_X7_setFlow r28 b4 b5 b6 b7 z27 _ tz27 (by omega) (by omega) (by omega) (by omega) (fun z29 tz29 o_52 hp_51 => ?_)
                      have oz29 : Same [8, 3909] [40, 41, 42, 43, 44, 45, 46] z z29 := oz27.tr o_52 (by decide) (by decide)
                      refine s_X8_accept r28 z29 _ tz29  (fun r32 z31 tz31 o_54 hp_53 => ?_)
                      have oz31 : Same [8, 3909] [40, 41, 42, 43, 44, 45, 46] z z31 := oz29.tr o_54 (by decide) (by decide)
                      have f_55 : 0 ≤ (gI z31 3909).toInt ∧ (gI z31 3909).toInt ≤ 6 := tz31.1 3909
                      have q_56 := ((o_54.fi 3909 (by decide))).trans (o_52.fi 3909 (by decide))
                      exact hk r32 z31 tz31 oz31 (by first | exact Or.inl ⟨(by omega), (by omega), fun g => by unfold GS at g; omega⟩ | exact Or.inr (Or.inl ⟨(by omega), (by omega), (by omega), (by unfold GS; exact ⟨by omega, by omega, by omega, by omega, by omega, by omega⟩)⟩) | exact Or.inr (Or.inr (Or.inl ⟨(by omega), (by omega), (by omega), (by omega), (by unfold GS; exact ⟨by omega, by omega, by omega, by omega, by omega, by omega⟩)⟩)) | exact Or.inr (Or.inr (Or.inr ⟨(by omega), (by omega), (by omega), (by omega), (by unfold GS; exact ⟨by omega, by omega, by omega, by omega, by omega, by omega⟩)⟩)))
                    · skip
                      have f_57 : 0 ≤ (gI z 3909).toInt ∧ (gI z 3909).toInt ≤ 6 := ht.1 3909
                      have i_58 := i_nlt rfl (show (6 : Int32).toInt = 6 by decide) c26
                      have g_59 : (-5 : Int32).toInt = -5 := by decide
                      refine s_X8_refuse ((-5 : Int32)) z _ ht  (fun r34 z33 tz33 o_61 hp_60 => ?_)
                      have oz33 : Same [8, 3909] [40, 41, 42, 43, 44, 45, 46] z z33 := (Same.rf (z := z)).tr o_61 (by decide) (by decide)
                      have f_62 : 0 ≤ (gI z33 3909).toInt ∧ (gI z33 3909).toInt ≤ 6 := tz33.1 3909
                      have q_63 := (o_61.fi 3909 (by decide))
                      exact hk r34 z33 tz33 oz33 (by first | exact Or.inl ⟨(by omega), (by omega), fun g => by unfold GS at g; omega⟩ | exact Or.inr (Or.inl ⟨(by omega), (by omega), (by omega), (by unfold GS; exact ⟨by omega, by omega, by omega, by omega, by omega, by omega⟩)⟩) | exact Or.inr (Or.inr (Or.inl ⟨(by omega), (by omega), (by omega), (by omega), (by unfold GS; exact ⟨by omega, by omega, by omega, by omega, by omega, by omega⟩)⟩)) | exact Or.inr (Or.inr (Or.inr ⟨(by omega), (by omega), (by omega), (by omega), (by unfold GS; exact ⟨by omega, by omega, by omega, by omega, by omega, by omega⟩)⟩)))
                  · subst er24
                    have f_64 : 0 ≤ (gI z 705).toInt ∧ (gI z 705).toInt ≤ 4 := ht.1 705
                    refine ⟨fun hc => absurd hc (by decide), fun _ => ?_⟩
                    have g_65 : (-2 : Int32).toInt = -2 := by decide
                    refine s_X8_refuse ((-2 : Int32)) z _ ht  (fun r36 z35 tz35 o_67 hp_66 => ?_)
                    have oz35 : Same [8, 3909] [40, 41, 42, 43, 44, 45, 46] z z35 := (Same.rf (z := z)).tr o_67 (by decide) (by decide)
                    have f_68 : 0 ≤ (gI z35 3909).toInt ∧ (gI z35 3909).toInt ≤ 6 := tz35.1 3909
                    have q_69 := (o_67.fi 3909 (by decide))
                    have f_70 : 0 ≤ (gI z 3909).toInt ∧ (gI z 3909).toInt ≤ 6 := ht.1 3909
                    exact hk r36 z35 tz35 oz35 (by first | exact Or.inl ⟨(by omega), (by omega), fun g => by unfold GS at g; omega⟩ | exact Or.inr (Or.inl ⟨(by omega), (by omega), (by omega), (by unfold GS; exact ⟨by omega, by omega, by omega, by omega, by omega, by omega⟩)⟩) | exact Or.inr (Or.inr (Or.inl ⟨(by omega), (by omega), (by omega), (by omega), (by unfold GS; exact ⟨by omega, by omega, by omega, by omega, by omega, by omega⟩)⟩)) | exact Or.inr (Or.inr (Or.inr ⟨(by omega), (by omega), (by omega), (by omega), (by unfold GS; exact ⟨by omega, by omega, by omega, by omega, by omega, by omega⟩)⟩)))
                · subst er21
                  refine ⟨fun hc => absurd hc (by decide), fun _ => ?_⟩
                  refine hK_39  ?_
                  have g_73 : (-1 : Int32).toInt = -1 := by decide
                  refine s_X8_refuse ((-1 : Int32)) z _ ht  (fun r_71 z_72 tz_72 o_75 hp_74 => ?_)
                  have oz_72 : Same [8, 3909] [40, 41, 42, 43, 44, 45, 46] z z_72 := (Same.rf (z := z)).tr o_75 (by decide) (by decide)
                  have f_76 : 0 ≤ (gI z_72 3909).toInt ∧ (gI z_72 3909).toInt ≤ 6 := tz_72.1 3909
                  have q_77 := (o_75.fi 3909 (by decide))
                  have f_78 : 0 ≤ (gI z 3909).toInt ∧ (gI z 3909).toInt ≤ 6 := ht.1 3909
                  have f_79 : 0 ≤ (gI z 705).toInt ∧ (gI z 705).toInt ≤ 4 := ht.1 705
                  exact hk r_71 z_72 tz_72 oz_72 (by first | exact Or.inl ⟨(by omega), (by omega), fun g => by unfold GS at g; omega⟩ | exact Or.inr (Or.inl ⟨(by omega), (by omega), (by omega), (by unfold GS; exact ⟨by omega, by omega, by omega, by omega, by omega, by omega⟩)⟩) | exact Or.inr (Or.inr (Or.inl ⟨(by omega), (by omega), (by omega), (by omega), (by unfold GS; exact ⟨by omega, by omega, by omega, by omega, by omega, by omega⟩)⟩)) | exact Or.inr (Or.inr (Or.inr ⟨(by omega), (by omega), (by omega), (by omega), (by unfold GS; exact ⟨by omega, by omega, by omega, by omega, by omega, by omega⟩)⟩)))
              · subst er18
                refine ⟨fun _ => ?_, fun hc => absurd (show ((0 : Int32)) = ((0 : Int32)) by decide) hc⟩
                refine hK_39  ?_
                have g_82 : (-1 : Int32).toInt = -1 := by decide
                refine s_X8_refuse ((-1 : Int32)) z _ ht  (fun r_80 z_81 tz_81 o_84 hp_83 => ?_)
                have oz_81 : Same [8, 3909] [40, 41, 42, 43, 44, 45, 46] z z_81 := (Same.rf (z := z)).tr o_84 (by decide) (by decide)
                have f_85 : 0 ≤ (gI z_81 3909).toInt ∧ (gI z_81 3909).toInt ≤ 6 := tz_81.1 3909
                have q_86 := (o_84.fi 3909 (by decide))
                have f_87 : 0 ≤ (gI z 3909).toInt ∧ (gI z 3909).toInt ≤ 6 := ht.1 3909
                have f_88 : 0 ≤ (gI z 705).toInt ∧ (gI z 705).toInt ≤ 4 := ht.1 705
                exact hk r_80 z_81 tz_81 oz_81 (by first | exact Or.inl ⟨(by omega), (by omega), fun g => by unfold GS at g; omega⟩ | exact Or.inr (Or.inl ⟨(by omega), (by omega), (by omega), (by unfold GS; exact ⟨by omega, by omega, by omega, by omega, by omega, by omega⟩)⟩) | exact Or.inr (Or.inr (Or.inl ⟨(by omega), (by omega), (by omega), (by omega), (by unfold GS; exact ⟨by omega, by omega, by omega, by omega, by omega, by omega⟩)⟩)) | exact Or.inr (Or.inr (Or.inr ⟨(by omega), (by omega), (by omega), (by omega), (by unfold GS; exact ⟨by omega, by omega, by omega, by omega, by omega, by omega⟩)⟩)))
            · subst er12
              intro K13 hK_89
              refine ⟨fun _ => ?_, fun hc => absurd (show ((0 : Int32)) = ((0 : Int32)) by decide) hc⟩
              refine hK_89  ?_
              have g_92 : (-1 : Int32).toInt = -1 := by decide
              refine s_X8_refuse ((-1 : Int32)) z _ ht  (fun r_90 z_91 tz_91 o_94 hp_93 => ?_)
              have oz_91 : Same [8, 3909] [40, 41, 42, 43, 44, 45, 46] z z_91 := (Same.rf (z := z)).tr o_94 (by decide) (by decide)
              have f_95 : 0 ≤ (gI z_91 3909).toInt ∧ (gI z_91 3909).toInt ≤ 6 := tz_91.1 3909
              have q_96 := (o_94.fi 3909 (by decide))
              have f_97 : 0 ≤ (gI z 3909).toInt ∧ (gI z 3909).toInt ≤ 6 := ht.1 3909
              have f_98 : 0 ≤ (gI z 705).toInt ∧ (gI z 705).toInt ≤ 4 := ht.1 705
              exact hk r_90 z_91 tz_91 oz_91 (by first | exact Or.inl ⟨(by omega), (by omega), fun g => by unfold GS at g; omega⟩ | exact Or.inr (Or.inl ⟨(by omega), (by omega), (by omega), (by unfold GS; exact ⟨by omega, by omega, by omega, by omega, by omega, by omega⟩)⟩) | exact Or.inr (Or.inr (Or.inl ⟨(by omega), (by omega), (by omega), (by omega), (by unfold GS; exact ⟨by omega, by omega, by omega, by omega, by omega, by omega⟩)⟩)) | exact Or.inr (Or.inr (Or.inr ⟨(by omega), (by omega), (by omega), (by omega), (by unfold GS; exact ⟨by omega, by omega, by omega, by omega, by omega, by omega⟩)⟩)))
          · skip
            have i_99 := i_nle rfl (show (1000 : Int32).toInt = 1000 by decide) c10
            refine hK_1  ?_
            have g_102 : (-1 : Int32).toInt = -1 := by decide
            refine s_X8_refuse ((-1 : Int32)) z _ ht  (fun r_100 z_101 tz_101 o_104 hp_103 => ?_)
            have oz_101 : Same [8, 3909] [40, 41, 42, 43, 44, 45, 46] z z_101 := (Same.rf (z := z)).tr o_104 (by decide) (by decide)
            have f_105 : 0 ≤ (gI z_101 3909).toInt ∧ (gI z_101 3909).toInt ≤ 6 := tz_101.1 3909
            have q_106 := (o_104.fi 3909 (by decide))
            have f_107 : 0 ≤ (gI z 3909).toInt ∧ (gI z 3909).toInt ≤ 6 := ht.1 3909
            have f_108 : 0 ≤ (gI z 705).toInt ∧ (gI z 705).toInt ≤ 4 := ht.1 705
            exact hk r_100 z_101 tz_101 oz_101 (by first | exact Or.inl ⟨(by omega), (by omega), fun g => by unfold GS at g; omega⟩ | exact Or.inr (Or.inl ⟨(by omega), (by omega), (by omega), (by unfold GS; exact ⟨by omega, by omega, by omega, by omega, by omega, by omega⟩)⟩) | exact Or.inr (Or.inr (Or.inl ⟨(by omega), (by omega), (by omega), (by omega), (by unfold GS; exact ⟨by omega, by omega, by omega, by omega, by omega, by omega⟩)⟩)) | exact Or.inr (Or.inr (Or.inr ⟨(by omega), (by omega), (by omega), (by omega), (by unfold GS; exact ⟨by omega, by omega, by omega, by omega, by omega, by omega⟩)⟩)))
      · subst er7
        refine ⟨fun _ => ?_, fun hc => absurd (show ((0 : Int32)) = ((0 : Int32)) by decide) hc⟩
        refine hK_1  ?_
        have g_111 : (-1 : Int32).toInt = -1 := by decide
        refine s_X8_refuse ((-1 : Int32)) z _ ht  (fun r_109 z_110 tz_110 o_113 hp_112 => ?_)
        have oz_110 : Same [8, 3909] [40, 41, 42, 43, 44, 45, 46] z z_110 := (Same.rf (z := z)).tr o_113 (by decide) (by decide)
        have f_114 : 0 ≤ (gI z_110 3909).toInt ∧ (gI z_110 3909).toInt ≤ 6 := tz_110.1 3909
        have q_115 := (o_113.fi 3909 (by decide))
        have f_116 : 0 ≤ (gI z 3909).toInt ∧ (gI z 3909).toInt ≤ 6 := ht.1 3909
        have f_117 : 0 ≤ (gI z 705).toInt ∧ (gI z 705).toInt ≤ 4 := ht.1 705
        exact hk r_109 z_110 tz_110 oz_110 (by first | exact Or.inl ⟨(by omega), (by omega), fun g => by unfold GS at g; omega⟩ | exact Or.inr (Or.inl ⟨(by omega), (by omega), (by omega), (by unfold GS; exact ⟨by omega, by omega, by omega, by omega, by omega, by omega⟩)⟩) | exact Or.inr (Or.inr (Or.inl ⟨(by omega), (by omega), (by omega), (by omega), (by unfold GS; exact ⟨by omega, by omega, by omega, by omega, by omega, by omega⟩)⟩)) | exact Or.inr (Or.inr (Or.inr ⟨(by omega), (by omega), (by omega), (by omega), (by unfold GS; exact ⟨by omega, by omega, by omega, by omega, by omega, by omega⟩)⟩)))

