set_option maxHeartbeats 2000000 in
theorem s3_X8_job (b1 : Int32) (b2 : Int32) (b3 : Int32) (b4 : Int32) (b5 : Int32) (b6 : Int32) (b7 : Int32) (b8 : Int32) (z : St) (P : Int32 → St → Prop) (ht : TX z) (hrx : RX z)  (hk : ∀ (r : Int32) (z2 : St), TX z2 → Same [8, 1308] [14, 15, 16, 17, 18, 19, 20] z z2 → RX z2 → ((r.toInt = -1 ∧ (gI z2 1308).toInt = (gI z 1308).toInt ∧ ¬ GJ b2 b3 b4 b5 b6 b7 b8) ∨ (r.toInt = -2 ∧ (gI z2 1308).toInt = (gI z 1308).toInt ∧ (b1.toInt < 0 ∨ (gI z 705).toInt ≤ b1.toInt) ∧ GJ b2 b3 b4 b5 b6 b7 b8) ∨ (r.toInt = -5 ∧ (gI z2 1308).toInt = (gI z 1308).toInt ∧ (0 ≤ b1.toInt ∧ b1.toInt < (gI z 705).toInt) ∧ (gI z 1308).toInt = 16 ∧ GJ b2 b3 b4 b5 b6 b7 b8) ∨ (r.toInt = (gI z 1308).toInt ∧ (gI z2 1308).toInt = (gI z 1308).toInt + 1 ∧ (0 ≤ b1.toInt ∧ b1.toInt < (gI z 705).toInt) ∧ (gI z 1308).toInt < 16 ∧ GJ b2 b3 b4 b5 b6 b7 b8)) → P r z2) : wp_X8_job b1 b2 b3 b4 b5 b6 b7 b8 z P := by
  unfold wp_X8_job
  refine s_X8_isHour b2 z _ ht  (fun r2 hp_1 => ?_)
  rcases hp_1 with ⟨er2, hp_1⟩ | ⟨er2, hp_1⟩
  · subst er2
    intro K3 hK_2
    refine ⟨fun hc => absurd hc (by decide), fun _ => ?_⟩
    refine s_X8_isHour b3 z _ ht  (fun r8 hp_3 => ?_)
    rcases hp_3 with ⟨er8, hp_3⟩ | ⟨er8, hp_3⟩
    · subst er8
      refine ⟨fun hc => absurd hc (by decide), fun _ => ?_⟩
      refine ⟨fun c10 => ?_, fun c10 => ?_⟩
      · skip
        have i_4 := i_lt rfl rfl c10
        refine hK_2  ?_
        have g_7 : (-1 : Int32).toInt = -1 := by decide
        refine s_X8_refuse ((-1 : Int32)) z _ ht  (fun r_5 z_6 tz_6 o_9 hp_8 => ?_)
        have oz_6 : Same [8, 1308] [14, 15, 16, 17, 18, 19, 20] z z_6 := (Same.rf (z := z)).tr o_9 (by decide) (by decide)
        have xz_6 : RX z_6 := RX_same hrx o_9 (by decide) (by decide) (by decide) (by decide) (by decide) (by decide)
        have f_10 : 0 ≤ (gI z_6 1308).toInt ∧ (gI z_6 1308).toInt ≤ 16 := tz_6.1 1308
        have q_11 := (o_9.fi 1308 (by decide))
        have f_12 : 0 ≤ (gI z 1308).toInt ∧ (gI z 1308).toInt ≤ 16 := ht.1 1308
        have f_13 : 0 ≤ (gI z 705).toInt ∧ (gI z 705).toInt ≤ 4 := ht.1 705
        exact hk r_5 z_6 tz_6 oz_6 xz_6 (by first | exact Or.inl ⟨(by omega), (by omega), fun g => by unfold GJ at g; omega⟩ | exact Or.inr (Or.inl ⟨(by omega), (by omega), (by omega), (by unfold GJ; exact ⟨by omega, by omega, by omega, by omega, by omega, by omega, fun _ => by omega, fun _ => by omega, fun _ => by omega⟩)⟩) | exact Or.inr (Or.inr (Or.inl ⟨(by omega), (by omega), (by omega), (by omega), (by unfold GJ; exact ⟨by omega, by omega, by omega, by omega, by omega, by omega, fun _ => by omega, fun _ => by omega, fun _ => by omega⟩)⟩)) | exact Or.inr (Or.inr (Or.inr ⟨(by omega), (by omega), (by omega), (by omega), (by unfold GJ; exact ⟨by omega, by omega, by omega, by omega, by omega, by omega, fun _ => by omega, fun _ => by omega, fun _ => by omega⟩)⟩)))
      · skip
        have i_14 := i_nlt rfl rfl c10
        refine ⟨fun c11 => ?_, fun c11 => ?_⟩
        · skip
          have i_15 := i_le (show (24 : Int32).toInt = 24 by decide) (a_sub rfl rfl (by omega) (by omega)) c11
          refine hK_2  ?_
          have g_18 : (-1 : Int32).toInt = -1 := by decide
          refine s_X8_refuse ((-1 : Int32)) z _ ht  (fun r_16 z_17 tz_17 o_20 hp_19 => ?_)
          have oz_17 : Same [8, 1308] [14, 15, 16, 17, 18, 19, 20] z z_17 := (Same.rf (z := z)).tr o_20 (by decide) (by decide)
          have xz_17 : RX z_17 := RX_same hrx o_20 (by decide) (by decide) (by decide) (by decide) (by decide) (by decide)
          have f_21 : 0 ≤ (gI z_17 1308).toInt ∧ (gI z_17 1308).toInt ≤ 16 := tz_17.1 1308
          have q_22 := (o_20.fi 1308 (by decide))
          have f_23 : 0 ≤ (gI z 1308).toInt ∧ (gI z 1308).toInt ≤ 16 := ht.1 1308
          have f_24 : 0 ≤ (gI z 705).toInt ∧ (gI z 705).toInt ≤ 4 := ht.1 705
          exact hk r_16 z_17 tz_17 oz_17 xz_17 (by first | exact Or.inl ⟨(by omega), (by omega), fun g => by unfold GJ at g; omega⟩ | exact Or.inr (Or.inl ⟨(by omega), (by omega), (by omega), (by unfold GJ; exact ⟨by omega, by omega, by omega, by omega, by omega, by omega, fun _ => by omega, fun _ => by omega, fun _ => by omega⟩)⟩) | exact Or.inr (Or.inr (Or.inl ⟨(by omega), (by omega), (by omega), (by omega), (by unfold GJ; exact ⟨by omega, by omega, by omega, by omega, by omega, by omega, fun _ => by omega, fun _ => by omega, fun _ => by omega⟩)⟩)) | exact Or.inr (Or.inr (Or.inr ⟨(by omega), (by omega), (by omega), (by omega), (by unfold GJ; exact ⟨by omega, by omega, by omega, by omega, by omega, by omega, fun _ => by omega, fun _ => by omega, fun _ => by omega⟩)⟩)))
        · skip
          have i_25 := i_nle (show (24 : Int32).toInt = 24 by decide) (a_sub rfl rfl (by omega) (by omega)) c11
          refine ⟨fun c12 => ?_, fun c12 => ?_⟩
          · skip
            have i_26 := i_lt rfl (show (1 : Int32).toInt = 1 by decide) c12
            refine hK_2  ?_
            have g_29 : (-1 : Int32).toInt = -1 := by decide
            refine s_X8_refuse ((-1 : Int32)) z _ ht  (fun r_27 z_28 tz_28 o_31 hp_30 => ?_)
            have oz_28 : Same [8, 1308] [14, 15, 16, 17, 18, 19, 20] z z_28 := (Same.rf (z := z)).tr o_31 (by decide) (by decide)
            have xz_28 : RX z_28 := RX_same hrx o_31 (by decide) (by decide) (by decide) (by decide) (by decide) (by decide)
            have f_32 : 0 ≤ (gI z_28 1308).toInt ∧ (gI z_28 1308).toInt ≤ 16 := tz_28.1 1308
            have q_33 := (o_31.fi 1308 (by decide))
            have f_34 : 0 ≤ (gI z 1308).toInt ∧ (gI z 1308).toInt ≤ 16 := ht.1 1308
            have f_35 : 0 ≤ (gI z 705).toInt ∧ (gI z 705).toInt ≤ 4 := ht.1 705
            exact hk r_27 z_28 tz_28 oz_28 xz_28 (by first | exact Or.inl ⟨(by omega), (by omega), fun g => by unfold GJ at g; omega⟩ | exact Or.inr (Or.inl ⟨(by omega), (by omega), (by omega), (by unfold GJ; exact ⟨by omega, by omega, by omega, by omega, by omega, by omega, fun _ => by omega, fun _ => by omega, fun _ => by omega⟩)⟩) | exact Or.inr (Or.inr (Or.inl ⟨(by omega), (by omega), (by omega), (by omega), (by unfold GJ; exact ⟨by omega, by omega, by omega, by omega, by omega, by omega, fun _ => by omega, fun _ => by omega, fun _ => by omega⟩)⟩)) | exact Or.inr (Or.inr (Or.inr ⟨(by omega), (by omega), (by omega), (by omega), (by unfold GJ; exact ⟨by omega, by omega, by omega, by omega, by omega, by omega, fun _ => by omega, fun _ => by omega, fun _ => by omega⟩)⟩)))
          · skip
            have i_36 := i_nlt rfl (show (1 : Int32).toInt = 1 by decide) c12
            refine ⟨fun c13 => ?_, fun c13 => ?_⟩
            · skip
              have i_37 := i_le rfl (show (4 : Int32).toInt = 4 by decide) c13
              refine s_X8_isNeed b5 z _ ht  (fun r15 hp_38 => ?_)
              rcases hp_38 with ⟨er15, hp_38⟩ | ⟨er15, hp_38⟩
              · subst er15
                intro K16 hK_39
                refine ⟨fun hc => absurd hc (by decide), fun _ => ?_⟩
                intro K20 hK_40
                refine ⟨fun c45 => ?_, fun c45 => ?_⟩
                · skip
                  have i_41 := i_le rfl (show (1 : Int32).toInt = 1 by decide) c45
                  refine hK_40  ?_
                  intro K_42 hK_62
                  refine ⟨fun c_59 => ?_, fun c_59 => ?_⟩
                  · skip
                    have i_63 := i_le rfl (show (2 : Int32).toInt = 2 by decide) c_59
                    refine hK_62  ?_
                    intro K_64 hK_80
                    refine ⟨fun c_77 => ?_, fun c_77 => ?_⟩
                    · skip
                      have i_81 := i_le rfl (show (3 : Int32).toInt = 3 by decide) c_77
                      refine hK_80  ?_
                      refine s_X0_has b1 z _ ht  (fun r_82 hp_94 => ?_)
                      rcases hp_94 with ⟨er_82, hp_94⟩ | ⟨er_82, hp_94⟩
                      · subst er_82
                        have f_95 : 0 ≤ (gI z 705).toInt ∧ (gI z 705).toInt ≤ 4 := ht.1 705
                        refine ⟨fun _ => ?_, fun hc => absurd hc (by decide)⟩
                        refine ⟨fun c_84 => ?_, fun c_84 => ?_⟩
                        · skip
                          have f_96 : 0 ≤ (gI z 1308).toInt ∧ (gI z 1308).toInt ≤ 16 := ht.1 1308
                          have i_97 := i_lt rfl (show (16 : Int32).toInt = 16 by decide) c_84
                          refine s_X1_add b1 b2 b3 b4 z _ ht hrx (by omega) (by omega) (by omega) (by omega) (by omega) (by omega) (fun r_85 z_86 tz_86 o_99 xz_86 hp_98 => ?_)
                          have oz_86 : Same [8, 1308] [14, 15, 16, 17, 18, 19, 20] z z_86 := (Same.rf (z := z)).tr o_99 (by decide) (by decide)
                          have f_100 : 0 ≤ (gI z_86 1308).toInt ∧ (gI z_86 1308).toInt ≤ 16 := tz_86.1 1308
                          refine s_X1_setNeeds r_85 b5 b6 b7 b8 z_86 _ tz_86 (by omega) (fun z_87 tz_87 o_102 hp_101 => ?_)
                          have oz_87 : Same [8, 1308] [14, 15, 16, 17, 18, 19, 20] z z_87 := oz_86.tr o_102 (by decide) (by decide)
                          have xz_87 : RX z_87 := RX_same xz_86 o_102 (by decide) (by decide) (by decide) (by decide) (by decide) (by decide)
                          refine s_X8_accept r_85 z_87 _ tz_87  (fun r_88 z_89 tz_89 o_104 hp_103 => ?_)
                          have oz_89 : Same [8, 1308] [14, 15, 16, 17, 18, 19, 20] z z_89 := oz_87.tr o_104 (by decide) (by decide)
                          have xz_89 : RX z_89 := RX_same xz_87 o_104 (by decide) (by decide) (by decide) (by decide) (by decide) (by decide)
                          have f_105 : 0 ≤ (gI z_89 1308).toInt ∧ (gI z_89 1308).toInt ≤ 16 := tz_89.1 1308
                          have q_106 := ((o_104.fi 1308 (by decide))).trans (o_102.fi 1308 (by decide))
                          exact hk r_88 z_89 tz_89 oz_89 xz_89 (by first | exact Or.inl ⟨(by omega), (by omega), fun g => by unfold GJ at g; omega⟩ | exact Or.inr (Or.inl ⟨(by omega), (by omega), (by omega), (by unfold GJ; exact ⟨by omega, by omega, by omega, by omega, by omega, by omega, fun _ => by omega, fun _ => by omega, fun _ => by omega⟩)⟩) | exact Or.inr (Or.inr (Or.inl ⟨(by omega), (by omega), (by omega), (by omega), (by unfold GJ; exact ⟨by omega, by omega, by omega, by omega, by omega, by omega, fun _ => by omega, fun _ => by omega, fun _ => by omega⟩)⟩)) | exact Or.inr (Or.inr (Or.inr ⟨(by omega), (by omega), (by omega), (by omega), (by unfold GJ; exact ⟨by omega, by omega, by omega, by omega, by omega, by omega, fun _ => by omega, fun _ => by omega, fun _ => by omega⟩)⟩)))
                        · skip
                          have f_107 : 0 ≤ (gI z 1308).toInt ∧ (gI z 1308).toInt ≤ 16 := ht.1 1308
                          have i_108 := i_nlt rfl (show (16 : Int32).toInt = 16 by decide) c_84
                          have g_109 : (-5 : Int32).toInt = -5 := by decide
                          refine s_X8_refuse ((-5 : Int32)) z _ ht  (fun r_90 z_91 tz_91 o_111 hp_110 => ?_)
                          have oz_91 : Same [8, 1308] [14, 15, 16, 17, 18, 19, 20] z z_91 := (Same.rf (z := z)).tr o_111 (by decide) (by decide)
                          have xz_91 : RX z_91 := RX_same hrx o_111 (by decide) (by decide) (by decide) (by decide) (by decide) (by decide)
                          have f_112 : 0 ≤ (gI z_91 1308).toInt ∧ (gI z_91 1308).toInt ≤ 16 := tz_91.1 1308
                          have q_113 := (o_111.fi 1308 (by decide))
                          exact hk r_90 z_91 tz_91 oz_91 xz_91 (by first | exact Or.inl ⟨(by omega), (by omega), fun g => by unfold GJ at g; omega⟩ | exact Or.inr (Or.inl ⟨(by omega), (by omega), (by omega), (by unfold GJ; exact ⟨by omega, by omega, by omega, by omega, by omega, by omega, fun _ => by omega, fun _ => by omega, fun _ => by omega⟩)⟩) | exact Or.inr (Or.inr (Or.inl ⟨(by omega), (by omega), (by omega), (by omega), (by unfold GJ; exact ⟨by omega, by omega, by omega, by omega, by omega, by omega, fun _ => by omega, fun _ => by omega, fun _ => by omega⟩)⟩)) | exact Or.inr (Or.inr (Or.inr ⟨(by omega), (by omega), (by omega), (by omega), (by unfold GJ; exact ⟨by omega, by omega, by omega, by omega, by omega, by omega, fun _ => by omega, fun _ => by omega, fun _ => by omega⟩)⟩)))
                      · subst er_82
                        have f_114 : 0 ≤ (gI z 705).toInt ∧ (gI z 705).toInt ≤ 4 := ht.1 705
                        refine ⟨fun hc => absurd hc (by decide), fun _ => ?_⟩
                        have g_115 : (-2 : Int32).toInt = -2 := by decide
                        refine s_X8_refuse ((-2 : Int32)) z _ ht  (fun r_92 z_93 tz_93 o_117 hp_116 => ?_)
                        have oz_93 : Same [8, 1308] [14, 15, 16, 17, 18, 19, 20] z z_93 := (Same.rf (z := z)).tr o_117 (by decide) (by decide)
                        have xz_93 : RX z_93 := RX_same hrx o_117 (by decide) (by decide) (by decide) (by decide) (by decide) (by decide)
                        have f_118 : 0 ≤ (gI z_93 1308).toInt ∧ (gI z_93 1308).toInt ≤ 16 := tz_93.1 1308
                        have q_119 := (o_117.fi 1308 (by decide))
                        have f_120 : 0 ≤ (gI z 1308).toInt ∧ (gI z 1308).toInt ≤ 16 := ht.1 1308
                        exact hk r_92 z_93 tz_93 oz_93 xz_93 (by first | exact Or.inl ⟨(by omega), (by omega), fun g => by unfold GJ at g; omega⟩ | exact Or.inr (Or.inl ⟨(by omega), (by omega), (by omega), (by unfold GJ; exact ⟨by omega, by omega, by omega, by omega, by omega, by omega, fun _ => by omega, fun _ => by omega, fun _ => by omega⟩)⟩) | exact Or.inr (Or.inr (Or.inl ⟨(by omega), (by omega), (by omega), (by omega), (by unfold GJ; exact ⟨by omega, by omega, by omega, by omega, by omega, by omega, fun _ => by omega, fun _ => by omega, fun _ => by omega⟩)⟩)) | exact Or.inr (Or.inr (Or.inr ⟨(by omega), (by omega), (by omega), (by omega), (by unfold GJ; exact ⟨by omega, by omega, by omega, by omega, by omega, by omega, fun _ => by omega, fun _ => by omega, fun _ => by omega⟩)⟩)))
                    · skip
                      have i_121 := i_nle rfl (show (3 : Int32).toInt = 3 by decide) c_77
                      refine s_X8_isNeed b8 z _ ht  (fun r_78 hp_122 => ?_)
                      rcases hp_122 with ⟨er_78, hp_122⟩ | ⟨er_78, hp_122⟩
                      · subst er_78
                        refine ⟨fun _ => ?_, fun hc => absurd hc (by decide)⟩
                        refine hK_80  ?_
                        refine s_X0_has b1 z _ ht  (fun r_123 hp_135 => ?_)
                        rcases hp_135 with ⟨er_123, hp_135⟩ | ⟨er_123, hp_135⟩
                        · subst er_123
                          have f_136 : 0 ≤ (gI z 705).toInt ∧ (gI z 705).toInt ≤ 4 := ht.1 705
                          refine ⟨fun _ => ?_, fun hc => absurd hc (by decide)⟩
                          refine ⟨fun c_125 => ?_, fun c_125 => ?_⟩
                          · skip
                            have f_137 : 0 ≤ (gI z 1308).toInt ∧ (gI z 1308).toInt ≤ 16 := ht.1 1308
                            have i_138 := i_lt rfl (show (16 : Int32).toInt = 16 by decide) c_125
                            refine s_X1_add b1 b2 b3 b4 z _ ht hrx (by omega) (by omega) (by omega) (by omega) (by omega) (by omega) (fun r_126 z_127 tz_127 o_140 xz_127 hp_139 => ?_)
                            have oz_127 : Same [8, 1308] [14, 15, 16, 17, 18, 19, 20] z z_127 := (Same.rf (z := z)).tr o_140 (by decide) (by decide)
                            have f_141 : 0 ≤ (gI z_127 1308).toInt ∧ (gI z_127 1308).toInt ≤ 16 := tz_127.1 1308
                            refine s_X1_setNeeds r_126 b5 b6 b7 b8 z_127 _ tz_127 (by omega) (fun z_128 tz_128 o_143 hp_142 => ?_)
                            have oz_128 : Same [8, 1308] [14, 15, 16, 17, 18, 19, 20] z z_128 := oz_127.tr o_143 (by decide) (by decide)
                            have xz_128 : RX z_128 := RX_same xz_127 o_143 (by decide) (by decide) (by decide) (by decide) (by decide) (by decide)
                            refine s_X8_accept r_126 z_128 _ tz_128  (fun r_129 z_130 tz_130 o_145 hp_144 => ?_)
                            have oz_130 : Same [8, 1308] [14, 15, 16, 17, 18, 19, 20] z z_130 := oz_128.tr o_145 (by decide) (by decide)
                            have xz_130 : RX z_130 := RX_same xz_128 o_145 (by decide) (by decide) (by decide) (by decide) (by decide) (by decide)
                            have f_146 : 0 ≤ (gI z_130 1308).toInt ∧ (gI z_130 1308).toInt ≤ 16 := tz_130.1 1308
                            have q_147 := ((o_145.fi 1308 (by decide))).trans (o_143.fi 1308 (by decide))
                            exact hk r_129 z_130 tz_130 oz_130 xz_130 (by first | exact Or.inl ⟨(by omega), (by omega), fun g => by unfold GJ at g; omega⟩ | exact Or.inr (Or.inl ⟨(by omega), (by omega), (by omega), (by unfold GJ; exact ⟨by omega, by omega, by omega, by omega, by omega, by omega, fun _ => by omega, fun _ => by omega, fun _ => by omega⟩)⟩) | exact Or.inr (Or.inr (Or.inl ⟨(by omega), (by omega), (by omega), (by omega), (by unfold GJ; exact ⟨by omega, by omega, by omega, by omega, by omega, by omega, fun _ => by omega, fun _ => by omega, fun _ => by omega⟩)⟩)) | exact Or.inr (Or.inr (Or.inr ⟨(by omega), (by omega), (by omega), (by omega), (by unfold GJ; exact ⟨by omega, by omega, by omega, by omega, by omega, by omega, fun _ => by omega, fun _ => by omega, fun _ => by omega⟩)⟩)))
                          · skip
                            have f_148 : 0 ≤ (gI z 1308).toInt ∧ (gI z 1308).toInt ≤ 16 := ht.1 1308
                            have i_149 := i_nlt rfl (show (16 : Int32).toInt = 16 by decide) c_125
                            have g_150 : (-5 : Int32).toInt = -5 := by decide
                            refine s_X8_refuse ((-5 : Int32)) z _ ht  (fun r_131 z_132 tz_132 o_152 hp_151 => ?_)
                            have oz_132 : Same [8, 1308] [14, 15, 16, 17, 18, 19, 20] z z_132 := (Same.rf (z := z)).tr o_152 (by decide) (by decide)
                            have xz_132 : RX z_132 := RX_same hrx o_152 (by decide) (by decide) (by decide) (by decide) (by decide) (by decide)
                            have f_153 : 0 ≤ (gI z_132 1308).toInt ∧ (gI z_132 1308).toInt ≤ 16 := tz_132.1 1308
                            have q_154 := (o_152.fi 1308 (by decide))
                            exact hk r_131 z_132 tz_132 oz_132 xz_132 (by first | exact Or.inl ⟨(by omega), (by omega), fun g => by unfold GJ at g; omega⟩ | exact Or.inr (Or.inl ⟨(by omega), (by omega), (by omega), (by unfold GJ; exact ⟨by omega, by omega, by omega, by omega, by omega, by omega, fun _ => by omega, fun _ => by omega, fun _ => by omega⟩)⟩) | exact Or.inr (Or.inr (Or.inl ⟨(by omega), (by omega), (by omega), (by omega), (by unfold GJ; exact ⟨by omega, by omega, by omega, by omega, by omega, by omega, fun _ => by omega, fun _ => by omega, fun _ => by omega⟩)⟩)) | exact Or.inr (Or.inr (Or.inr ⟨(by omega), (by omega), (by omega), (by omega), (by unfold GJ; exact ⟨by omega, by omega, by omega, by omega, by omega, by omega, fun _ => by omega, fun _ => by omega, fun _ => by omega⟩)⟩)))
                        · subst er_123
                          have f_155 : 0 ≤ (gI z 705).toInt ∧ (gI z 705).toInt ≤ 4 := ht.1 705
                          refine ⟨fun hc => absurd hc (by decide), fun _ => ?_⟩
                          have g_156 : (-2 : Int32).toInt = -2 := by decide
                          refine s_X8_refuse ((-2 : Int32)) z _ ht  (fun r_133 z_134 tz_134 o_158 hp_157 => ?_)
                          have oz_134 : Same [8, 1308] [14, 15, 16, 17, 18, 19, 20] z z_134 := (Same.rf (z := z)).tr o_158 (by decide) (by decide)
                          have xz_134 : RX z_134 := RX_same hrx o_158 (by decide) (by decide) (by decide) (by decide) (by decide) (by decide)
                          have f_159 : 0 ≤ (gI z_134 1308).toInt ∧ (gI z_134 1308).toInt ≤ 16 := tz_134.1 1308
                          have q_160 := (o_158.fi 1308 (by decide))
                          have f_161 : 0 ≤ (gI z 1308).toInt ∧ (gI z 1308).toInt ≤ 16 := ht.1 1308
                          exact hk r_133 z_134 tz_134 oz_134 xz_134 (by first | exact Or.inl ⟨(by omega), (by omega), fun g => by unfold GJ at g; omega⟩ | exact Or.inr (Or.inl ⟨(by omega), (by omega), (by omega), (by unfold GJ; exact ⟨by omega, by omega, by omega, by omega, by omega, by omega, fun _ => by omega, fun _ => by omega, fun _ => by omega⟩)⟩) | exact Or.inr (Or.inr (Or.inl ⟨(by omega), (by omega), (by omega), (by omega), (by unfold GJ; exact ⟨by omega, by omega, by omega, by omega, by omega, by omega, fun _ => by omega, fun _ => by omega, fun _ => by omega⟩)⟩)) | exact Or.inr (Or.inr (Or.inr ⟨(by omega), (by omega), (by omega), (by omega), (by unfold GJ; exact ⟨by omega, by omega, by omega, by omega, by omega, by omega, fun _ => by omega, fun _ => by omega, fun _ => by omega⟩)⟩)))
                      · subst er_78
                        refine ⟨fun hc => absurd hc (by decide), fun _ => ?_⟩
                        refine hK_39  ?_
                        have g_164 : (-1 : Int32).toInt = -1 := by decide
                        refine s_X8_refuse ((-1 : Int32)) z _ ht  (fun r_162 z_163 tz_163 o_166 hp_165 => ?_)
                        have oz_163 : Same [8, 1308] [14, 15, 16, 17, 18, 19, 20] z z_163 := (Same.rf (z := z)).tr o_166 (by decide) (by decide)
                        have xz_163 : RX z_163 := RX_same hrx o_166 (by decide) (by decide) (by decide) (by decide) (by decide) (by decide)
                        have f_167 : 0 ≤ (gI z_163 1308).toInt ∧ (gI z_163 1308).toInt ≤ 16 := tz_163.1 1308
                        have q_168 := (o_166.fi 1308 (by decide))
                        have f_169 : 0 ≤ (gI z 1308).toInt ∧ (gI z 1308).toInt ≤ 16 := ht.1 1308
                        have f_170 : 0 ≤ (gI z 705).toInt ∧ (gI z 705).toInt ≤ 4 := ht.1 705
                        exact hk r_162 z_163 tz_163 oz_163 xz_163 (by first | exact Or.inl ⟨(by omega), (by omega), fun g => by unfold GJ at g; omega⟩ | exact Or.inr (Or.inl ⟨(by omega), (by omega), (by omega), (by unfold GJ; exact ⟨by omega, by omega, by omega, by omega, by omega, by omega, fun _ => by omega, fun _ => by omega, fun _ => by omega⟩)⟩) | exact Or.inr (Or.inr (Or.inl ⟨(by omega), (by omega), (by omega), (by omega), (by unfold GJ; exact ⟨by omega, by omega, by omega, by omega, by omega, by omega, fun _ => by omega, fun _ => by omega, fun _ => by omega⟩)⟩)) | exact Or.inr (Or.inr (Or.inr ⟨(by omega), (by omega), (by omega), (by omega), (by unfold GJ; exact ⟨by omega, by omega, by omega, by omega, by omega, by omega, fun _ => by omega, fun _ => by omega, fun _ => by omega⟩)⟩)))
                  · skip
                    have i_171 := i_nle rfl (show (2 : Int32).toInt = 2 by decide) c_59
                    refine s_X8_isNeed b7 z _ ht  (fun r_60 hp_172 => ?_)
                    rcases hp_172 with ⟨er_60, hp_172⟩ | ⟨er_60, hp_172⟩
                    · subst er_60
                      refine ⟨fun hc => absurd hc (by decide), fun _ => ?_⟩
                      refine hK_62  ?_
                      intro K_173 hK_189
                      refine ⟨fun c_186 => ?_, fun c_186 => ?_⟩
                      · skip
                        have i_190 := i_le rfl (show (3 : Int32).toInt = 3 by decide) c_186
                        refine hK_189  ?_
                        refine s_X0_has b1 z _ ht  (fun r_191 hp_203 => ?_)
                        rcases hp_203 with ⟨er_191, hp_203⟩ | ⟨er_191, hp_203⟩
                        · subst er_191
                          have f_204 : 0 ≤ (gI z 705).toInt ∧ (gI z 705).toInt ≤ 4 := ht.1 705
                          refine ⟨fun _ => ?_, fun hc => absurd hc (by decide)⟩
                          refine ⟨fun c_193 => ?_, fun c_193 => ?_⟩
                          · skip
                            have f_205 : 0 ≤ (gI z 1308).toInt ∧ (gI z 1308).toInt ≤ 16 := ht.1 1308
                            have i_206 := i_lt rfl (show (16 : Int32).toInt = 16 by decide) c_193
                            refine s_X1_add b1 b2 b3 b4 z _ ht hrx (by omega) (by omega) (by omega) (by omega) (by omega) (by omega) (fun r_194 z_195 tz_195 o_208 xz_195 hp_207 => ?_)
                            have oz_195 : Same [8, 1308] [14, 15, 16, 17, 18, 19, 20] z z_195 := (Same.rf (z := z)).tr o_208 (by decide) (by decide)
                            have f_209 : 0 ≤ (gI z_195 1308).toInt ∧ (gI z_195 1308).toInt ≤ 16 := tz_195.1 1308
                            refine s_X1_setNeeds r_194 b5 b6 b7 b8 z_195 _ tz_195 (by omega) (fun z_196 tz_196 o_211 hp_210 => ?_)
                            have oz_196 : Same [8, 1308] [14, 15, 16, 17, 18, 19, 20] z z_196 := oz_195.tr o_211 (by decide) (by decide)
                            have xz_196 : RX z_196 := RX_same xz_195 o_211 (by decide) (by decide) (by decide) (by decide) (by decide) (by decide)
                            refine s_X8_accept r_194 z_196 _ tz_196  (fun r_197 z_198 tz_198 o_213 hp_212 => ?_)
                            have oz_198 : Same [8, 1308] [14, 15, 16, 17, 18, 19, 20] z z_198 := oz_196.tr o_213 (by decide) (by decide)
                            have xz_198 : RX z_198 := RX_same xz_196 o_213 (by decide) (by decide) (by decide) (by decide) (by decide) (by decide)
                            have f_214 : 0 ≤ (gI z_198 1308).toInt ∧ (gI z_198 1308).toInt ≤ 16 := tz_198.1 1308
                            have q_215 := ((o_213.fi 1308 (by decide))).trans (o_211.fi 1308 (by decide))
                            exact hk r_197 z_198 tz_198 oz_198 xz_198 (by first | exact Or.inl ⟨(by omega), (by omega), fun g => by unfold GJ at g; omega⟩ | exact Or.inr (Or.inl ⟨(by omega), (by omega), (by omega), (by unfold GJ; exact ⟨by omega, by omega, by omega, by omega, by omega, by omega, fun _ => by omega, fun _ => by omega, fun _ => by omega⟩)⟩) | exact Or.inr (Or.inr (Or.inl ⟨(by omega), (by omega), (by omega), (by omega), (by unfold GJ; exact ⟨by omega, by omega, by omega, by omega, by omega, by omega, fun _ => by omega, fun _ => by omega, fun _ => by omega⟩)⟩)) | exact Or.inr (Or.inr (Or.inr ⟨(by omega), (by omega), (by omega), (by omega), (by unfold GJ; exact ⟨by omega, by omega, by omega, by omega, by omega, by omega, fun _ => by omega, fun _ => by omega, fun _ => by omega⟩)⟩)))
                          · skip
                            have f_216 : 0 ≤ (gI z 1308).toInt ∧ (gI z 1308).toInt ≤ 16 := ht.1 1308
                            have i_217 := i_nlt rfl (show (16 : Int32).toInt = 16 by decide) c_193
                            have g_218 : (-5 : Int32).toInt = -5 := by decide
                            refine s_X8_refuse ((-5 : Int32)) z _ ht  (fun r_199 z_200 tz_200 o_220 hp_219 => ?_)
                            have oz_200 : Same [8, 1308] [14, 15, 16, 17, 18, 19, 20] z z_200 := (Same.rf (z := z)).tr o_220 (by decide) (by decide)
                            have xz_200 : RX z_200 := RX_same hrx o_220 (by decide) (by decide) (by decide) (by decide) (by decide) (by decide)
                            have f_221 : 0 ≤ (gI z_200 1308).toInt ∧ (gI z_200 1308).toInt ≤ 16 := tz_200.1 1308
                            have q_222 := (o_220.fi 1308 (by decide))
                            exact hk r_199 z_200 tz_200 oz_200 xz_200 (by first | exact Or.inl ⟨(by omega), (by omega), fun g => by unfold GJ at g; omega⟩ | exact Or.inr (Or.inl ⟨(by omega), (by omega), (by omega), (by unfold GJ; exact ⟨by omega, by omega, by omega, by omega, by omega, by omega, fun _ => by omega, fun _ => by omega, fun _ => by omega⟩)⟩) | exact Or.inr (Or.inr (Or.inl ⟨(by omega), (by omega), (by omega), (by omega), (by unfold GJ; exact ⟨by omega, by omega, by omega, by omega, by omega, by omega, fun _ => by omega, fun _ => by omega, fun _ => by omega⟩)⟩)) | exact Or.inr (Or.inr (Or.inr ⟨(by omega), (by omega), (by omega), (by omega), (by unfold GJ; exact ⟨by omega, by omega, by omega, by omega, by omega, by omega, fun _ => by omega, fun _ => by omega, fun _ => by omega⟩)⟩)))
                        · subst er_191
                          have f_223 : 0 ≤ (gI z 705).toInt ∧ (gI z 705).toInt ≤ 4 := ht.1 705
                          refine ⟨fun hc => absurd hc (by decide), fun _ => ?_⟩
                          have g_224 : (-2 : Int32).toInt = -2 := by decide
                          refine s_X8_refuse ((-2 : Int32)) z _ ht  (fun r_201 z_202 tz_202 o_226 hp_225 => ?_)
                          have oz_202 : Same [8, 1308] [14, 15, 16, 17, 18, 19, 20] z z_202 := (Same.rf (z := z)).tr o_226 (by decide) (by decide)
                          have xz_202 : RX z_202 := RX_same hrx o_226 (by decide) (by decide) (by decide) (by decide) (by decide) (by decide)
                          have f_227 : 0 ≤ (gI z_202 1308).toInt ∧ (gI z_202 1308).toInt ≤ 16 := tz_202.1 1308
                          have q_228 := (o_226.fi 1308 (by decide))
                          have f_229 : 0 ≤ (gI z 1308).toInt ∧ (gI z 1308).toInt ≤ 16 := ht.1 1308
                          exact hk r_201 z_202 tz_202 oz_202 xz_202 (by first | exact Or.inl ⟨(by omega), (by omega), fun g => by unfold GJ at g; omega⟩ | exact Or.inr (Or.inl ⟨(by omega), (by omega), (by omega), (by unfold GJ; exact ⟨by omega, by omega, by omega, by omega, by omega, by omega, fun _ => by omega, fun _ => by omega, fun _ => by omega⟩)⟩) | exact Or.inr (Or.inr (Or.inl ⟨(by omega), (by omega), (by omega), (by omega), (by unfold GJ; exact ⟨by omega, by omega, by omega, by omega, by omega, by omega, fun _ => by omega, fun _ => by omega, fun _ => by omega⟩)⟩)) | exact Or.inr (Or.inr (Or.inr ⟨(by omega), (by omega), (by omega), (by omega), (by unfold GJ; exact ⟨by omega, by omega, by omega, by omega, by omega, by omega, fun _ => by omega, fun _ => by omega, fun _ => by omega⟩)⟩)))
                      · skip
                        have i_230 := i_nle rfl (show (3 : Int32).toInt = 3 by decide) c_186
                        refine s_X8_isNeed b8 z _ ht  (fun r_187 hp_231 => ?_)
                        rcases hp_231 with ⟨er_187, hp_231⟩ | ⟨er_187, hp_231⟩
                        · subst er_187
                          refine ⟨fun _ => ?_, fun hc => absurd hc (by decide)⟩
                          refine hK_189  ?_
                          refine s_X0_has b1 z _ ht  (fun r_232 hp_244 => ?_)
                          rcases hp_244 with ⟨er_232, hp_244⟩ | ⟨er_232, hp_244⟩
                          · subst er_232
                            have f_245 : 0 ≤ (gI z 705).toInt ∧ (gI z 705).toInt ≤ 4 := ht.1 705
                            refine ⟨fun _ => ?_, fun hc => absurd hc (by decide)⟩
                            refine ⟨fun c_234 => ?_, fun c_234 => ?_⟩
                            · skip
                              have f_246 : 0 ≤ (gI z 1308).toInt ∧ (gI z 1308).toInt ≤ 16 := ht.1 1308
                              have i_247 := i_lt rfl (show (16 : Int32).toInt = 16 by decide) c_234
                              refine s_X1_add b1 b2 b3 b4 z _ ht hrx (by omega) (by omega) (by omega) (by omega) (by omega) (by omega) (fun r_235 z_236 tz_236 o_249 xz_236 hp_248 => ?_)
                              have oz_236 : Same [8, 1308] [14, 15, 16, 17, 18, 19, 20] z z_236 := (Same.rf (z := z)).tr o_249 (by decide) (by decide)
                              have f_250 : 0 ≤ (gI z_236 1308).toInt ∧ (gI z_236 1308).toInt ≤ 16 := tz_236.1 1308
                              refine s_X1_setNeeds r_235 b5 b6 b7 b8 z_236 _ tz_236 (by omega) (fun z_237 tz_237 o_252 hp_251 => ?_)
                              have oz_237 : Same [8, 1308] [14, 15, 16, 17, 18, 19, 20] z z_237 := oz_236.tr o_252 (by decide) (by decide)
                              have xz_237 : RX z_237 := RX_same xz_236 o_252 (by decide) (by decide) (by decide) (by decide) (by decide) (by decide)
                              refine s_X8_accept r_235 z_237 _ tz_237  (fun r_238 z_239 tz_239 o_254 hp_253 => ?_)
                              have oz_239 : Same [8, 1308] [14, 15, 16, 17, 18, 19, 20] z z_239 := oz_237.tr o_254 (by decide) (by decide)
                              have xz_239 : RX z_239 := RX_same xz_237 o_254 (by decide) (by decide) (by decide) (by decide) (by decide) (by decide)
                              have f_255 : 0 ≤ (gI z_239 1308).toInt ∧ (gI z_239 1308).toInt ≤ 16 := tz_239.1 1308
                              have q_256 := ((o_254.fi 1308 (by decide))).trans (o_252.fi 1308 (by decide))
                              exact hk r_238 z_239 tz_239 oz_239 xz_239 (by first | exact Or.inl ⟨(by omega), (by omega), fun g => by unfold GJ at g; omega⟩ | exact Or.inr (Or.inl ⟨(by omega), (by omega), (by omega), (by unfold GJ; exact ⟨by omega, by omega, by omega, by omega, by omega, by omega, fun _ => by omega, fun _ => by omega, fun _ => by omega⟩)⟩) | exact Or.inr (Or.inr (Or.inl ⟨(by omega), (by omega), (by omega), (by omega), (by unfold GJ; exact ⟨by omega, by omega, by omega, by omega, by omega, by omega, fun _ => by omega, fun _ => by omega, fun _ => by omega⟩)⟩)) | exact Or.inr (Or.inr (Or.inr ⟨(by omega), (by omega), (by omega), (by omega), (by unfold GJ; exact ⟨by omega, by omega, by omega, by omega, by omega, by omega, fun _ => by omega, fun _ => by omega, fun _ => by omega⟩)⟩)))
                            · skip
                              have f_257 : 0 ≤ (gI z 1308).toInt ∧ (gI z 1308).toInt ≤ 16 := ht.1 1308
                              have i_258 := i_nlt rfl (show (16 : Int32).toInt = 16 by decide) c_234
                              have g_259 : (-5 : Int32).toInt = -5 := by decide
                              refine s_X8_refuse ((-5 : Int32)) z _ ht  (fun r_240 z_241 tz_241 o_261 hp_260 => ?_)
                              have oz_241 : Same [8, 1308] [14, 15, 16, 17, 18, 19, 20] z z_241 := (Same.rf (z := z)).tr o_261 (by decide) (by decide)
                              have xz_241 : RX z_241 := RX_same hrx o_261 (by decide) (by decide) (by decide) (by decide) (by decide) (by decide)
                              have f_262 : 0 ≤ (gI z_241 1308).toInt ∧ (gI z_241 1308).toInt ≤ 16 := tz_241.1 1308
                              have q_263 := (o_261.fi 1308 (by decide))
                              exact hk r_240 z_241 tz_241 oz_241 xz_241 (by first | exact Or.inl ⟨(by omega), (by omega), fun g => by unfold GJ at g; omega⟩ | exact Or.inr (Or.inl ⟨(by omega), (by omega), (by omega), (by unfold GJ; exact ⟨by omega, by omega, by omega, by omega, by omega, by omega, fun _ => by omega, fun _ => by omega, fun _ => by omega⟩)⟩) | exact Or.inr (Or.inr (Or.inl ⟨(by omega), (by omega), (by omega), (by omega), (by unfold GJ; exact ⟨by omega, by omega, by omega, by omega, by omega, by omega, fun _ => by omega, fun _ => by omega, fun _ => by omega⟩)⟩)) | exact Or.inr (Or.inr (Or.inr ⟨(by omega), (by omega), (by omega), (by omega), (by unfold GJ; exact ⟨by omega, by omega, by omega, by omega, by omega, by omega, fun _ => by omega, fun _ => by omega, fun _ => by omega⟩)⟩)))
                          · subst er_232
                            have f_264 : 0 ≤ (gI z 705).toInt ∧ (gI z 705).toInt ≤ 4 := ht.1 705
                            refine ⟨fun hc => absurd hc (by decide), fun _ => ?_⟩
                            have g_265 : (-2 : Int32).toInt = -2 := by decide
                            refine s_X8_refuse ((-2 : Int32)) z _ ht  (fun r_242 z_243 tz_243 o_267 hp_266 => ?_)
                            have oz_243 : Same [8, 1308] [14, 15, 16, 17, 18, 19, 20] z z_243 := (Same.rf (z := z)).tr o_267 (by decide) (by decide)
                            have xz_243 : RX z_243 := RX_same hrx o_267 (by decide) (by decide) (by decide) (by decide) (by decide) (by decide)
                            have f_268 : 0 ≤ (gI z_243 1308).toInt ∧ (gI z_243 1308).toInt ≤ 16 := tz_243.1 1308
                            have q_269 := (o_267.fi 1308 (by decide))
                            have f_270 : 0 ≤ (gI z 1308).toInt ∧ (gI z 1308).toInt ≤ 16 := ht.1 1308
                            exact hk r_242 z_243 tz_243 oz_243 xz_243 (by first | exact Or.inl ⟨(by omega), (by omega), fun g => by unfold GJ at g; omega⟩ | exact Or.inr (Or.inl ⟨(by omega), (by omega), (by omega), (by unfold GJ; exact ⟨by omega, by omega, by omega, by omega, by omega, by omega, fun _ => by omega, fun _ => by omega, fun _ => by omega⟩)⟩) | exact Or.inr (Or.inr (Or.inl ⟨(by omega), (by omega), (by omega), (by omega), (by unfold GJ; exact ⟨by omega, by omega, by omega, by omega, by omega, by omega, fun _ => by omega, fun _ => by omega, fun _ => by omega⟩)⟩)) | exact Or.inr (Or.inr (Or.inr ⟨(by omega), (by omega), (by omega), (by omega), (by unfold GJ; exact ⟨by omega, by omega, by omega, by omega, by omega, by omega, fun _ => by omega, fun _ => by omega, fun _ => by omega⟩)⟩)))
                        · subst er_187
                          refine ⟨fun hc => absurd hc (by decide), fun _ => ?_⟩
                          refine hK_39  ?_
                          have g_273 : (-1 : Int32).toInt = -1 := by decide
                          refine s_X8_refuse ((-1 : Int32)) z _ ht  (fun r_271 z_272 tz_272 o_275 hp_274 => ?_)
                          have oz_272 : Same [8, 1308] [14, 15, 16, 17, 18, 19, 20] z z_272 := (Same.rf (z := z)).tr o_275 (by decide) (by decide)
                          have xz_272 : RX z_272 := RX_same hrx o_275 (by decide) (by decide) (by decide) (by decide) (by decide) (by decide)
                          have f_276 : 0 ≤ (gI z_272 1308).toInt ∧ (gI z_272 1308).toInt ≤ 16 := tz_272.1 1308
                          have q_277 := (o_275.fi 1308 (by decide))
                          have f_278 : 0 ≤ (gI z 1308).toInt ∧ (gI z 1308).toInt ≤ 16 := ht.1 1308
                          have f_279 : 0 ≤ (gI z 705).toInt ∧ (gI z 705).toInt ≤ 4 := ht.1 705
                          exact hk r_271 z_272 tz_272 oz_272 xz_272 (by first | exact Or.inl ⟨(by omega), (by omega), fun g => by unfold GJ at g; omega⟩ | exact Or.inr (Or.inl ⟨(by omega), (by omega), (by omega), (by unfold GJ; exact ⟨by omega, by omega, by omega, by omega, by omega, by omega, fun _ => by omega, fun _ => by omega, fun _ => by omega⟩)⟩) | exact Or.inr (Or.inr (Or.inl ⟨(by omega), (by omega), (by omega), (by omega), (by unfold GJ; exact ⟨by omega, by omega, by omega, by omega, by omega, by omega, fun _ => by omega, fun _ => by omega, fun _ => by omega⟩)⟩)) | exact Or.inr (Or.inr (Or.inr ⟨(by omega), (by omega), (by omega), (by omega), (by unfold GJ; exact ⟨by omega, by omega, by omega, by omega, by omega, by omega, fun _ => by omega, fun _ => by omega, fun _ => by omega⟩)⟩)))
                    · subst er_60
                      refine ⟨fun _ => ?_, fun hc => absurd (show ((0 : Int32)) = ((0 : Int32)) by decide) hc⟩
                      refine hK_39  ?_
                      have g_282 : (-1 : Int32).toInt = -1 := by decide
                      refine s_X8_refuse ((-1 : Int32)) z _ ht  (fun r_280 z_281 tz_281 o_284 hp_283 => ?_)
                      have oz_281 : Same [8, 1308] [14, 15, 16, 17, 18, 19, 20] z z_281 := (Same.rf (z := z)).tr o_284 (by decide) (by decide)
                      have xz_281 : RX z_281 := RX_same hrx o_284 (by decide) (by decide) (by decide) (by decide) (by decide) (by decide)
                      have f_285 : 0 ≤ (gI z_281 1308).toInt ∧ (gI z_281 1308).toInt ≤ 16 := tz_281.1 1308
                      have q_286 := (o_284.fi 1308 (by decide))
                      have f_287 : 0 ≤ (gI z 1308).toInt ∧ (gI z 1308).toInt ≤ 16 := ht.1 1308
                      have f_288 : 0 ≤ (gI z 705).toInt ∧ (gI z 705).toInt ≤ 4 := ht.1 705
                      exact hk r_280 z_281 tz_281 oz_281 xz_281 (by first | exact Or.inl ⟨(by omega), (by omega), fun g => by unfold GJ at g; omega⟩ | exact Or.inr (Or.inl ⟨(by omega), (by omega), (by omega), (by unfold GJ; exact ⟨by omega, by omega, by omega, by omega, by omega, by omega, fun _ => by omega, fun _ => by omega, fun _ => by omega⟩)⟩) | exact Or.inr (Or.inr (Or.inl ⟨(by omega), (by omega), (by omega), (by omega), (by unfold GJ; exact ⟨by omega, by omega, by omega, by omega, by omega, by omega, fun _ => by omega, fun _ => by omega, fun _ => by omega⟩)⟩)) | exact Or.inr (Or.inr (Or.inr ⟨(by omega), (by omega), (by omega), (by omega), (by unfold GJ; exact ⟨by omega, by omega, by omega, by omega, by omega, by omega, fun _ => by omega, fun _ => by omega, fun _ => by omega⟩)⟩)))
                · skip
                  have i_289 := i_nle rfl (show (1 : Int32).toInt = 1 by decide) c45
                  refine s_X8_isNeed b6 z _ ht  (fun r47 hp_290 => ?_)
                  rcases hp_290 with ⟨er47, hp_290⟩ | ⟨er47, hp_290⟩
                  · subst er47
                    refine ⟨fun hc => absurd hc (by decide), fun _ => ?_⟩
                    refine hK_40  ?_
                    intro K_291 hK_311
                    refine ⟨fun c_308 => ?_, fun c_308 => ?_⟩
                    · skip
                      have i_312 := i_le rfl (show (2 : Int32).toInt = 2 by decide) c_308
                      refine hK_311  ?_
                      intro K_313 hK_329
                      refine ⟨fun c_326 => ?_, fun c_326 => ?_⟩
                      · skip
                        have i_330 := i_le rfl (show (3 : Int32).toInt = 3 by decide) c_326
                        refine hK_329  ?_
                        refine s_X0_has b1 z _ ht  (fun r_331 hp_343 => ?_)
                        rcases hp_343 with ⟨er_331, hp_343⟩ | ⟨er_331, hp_343⟩
                        · subst er_331
                          have f_344 : 0 ≤ (gI z 705).toInt ∧ (gI z 705).toInt ≤ 4 := ht.1 705
                          refine ⟨fun _ => ?_, fun hc => absurd hc (by decide)⟩
                          refine ⟨fun c_333 => ?_, fun c_333 => ?_⟩
                          · skip
                            have f_345 : 0 ≤ (gI z 1308).toInt ∧ (gI z 1308).toInt ≤ 16 := ht.1 1308
                            have i_346 := i_lt rfl (show (16 : Int32).toInt = 16 by decide) c_333
                            refine s_X1_add b1 b2 b3 b4 z _ ht hrx (by omega) (by omega) (by omega) (by omega) (by omega) (by omega) (fun r_334 z_335 tz_335 o_348 xz_335 hp_347 => ?_)
                            have oz_335 : Same [8, 1308] [14, 15, 16, 17, 18, 19, 20] z z_335 := (Same.rf (z := z)).tr o_348 (by decide) (by decide)
                            have f_349 : 0 ≤ (gI z_335 1308).toInt ∧ (gI z_335 1308).toInt ≤ 16 := tz_335.1 1308
                            refine s_X1_setNeeds r_334 b5 b6 b7 b8 z_335 _ tz_335 (by omega) (fun z_336 tz_336 o_351 hp_350 => ?_)
                            have oz_336 : Same [8, 1308] [14, 15, 16, 17, 18, 19, 20] z z_336 := oz_335.tr o_351 (by decide) (by decide)
                            have xz_336 : RX z_336 := RX_same xz_335 o_351 (by decide) (by decide) (by decide) (by decide) (by decide) (by decide)
                            refine s_X8_accept r_334 z_336 _ tz_336  (fun r_337 z_338 tz_338 o_353 hp_352 => ?_)
                            have oz_338 : Same [8, 1308] [14, 15, 16, 17, 18, 19, 20] z z_338 := oz_336.tr o_353 (by decide) (by decide)
                            have xz_338 : RX z_338 := RX_same xz_336 o_353 (by decide) (by decide) (by decide) (by decide) (by decide) (by decide)
                            have f_354 : 0 ≤ (gI z_338 1308).toInt ∧ (gI z_338 1308).toInt ≤ 16 := tz_338.1 1308
                            have q_355 := ((o_353.fi 1308 (by decide))).trans (o_351.fi 1308 (by decide))
                            exact hk r_337 z_338 tz_338 oz_338 xz_338 (by first | exact Or.inl ⟨(by omega), (by omega), fun g => by unfold GJ at g; omega⟩ | exact Or.inr (Or.inl ⟨(by omega), (by omega), (by omega), (by unfold GJ; exact ⟨by omega, by omega, by omega, by omega, by omega, by omega, fun _ => by omega, fun _ => by omega, fun _ => by omega⟩)⟩) | exact Or.inr (Or.inr (Or.inl ⟨(by omega), (by omega), (by omega), (by omega), (by unfold GJ; exact ⟨by omega, by omega, by omega, by omega, by omega, by omega, fun _ => by omega, fun _ => by omega, fun _ => by omega⟩)⟩)) | exact Or.inr (Or.inr (Or.inr ⟨(by omega), (by omega), (by omega), (by omega), (by unfold GJ; exact ⟨by omega, by omega, by omega, by omega, by omega, by omega, fun _ => by omega, fun _ => by omega, fun _ => by omega⟩)⟩)))
                          · skip
                            have f_356 : 0 ≤ (gI z 1308).toInt ∧ (gI z 1308).toInt ≤ 16 := ht.1 1308
                            have i_357 := i_nlt rfl (show (16 : Int32).toInt = 16 by decide) c_333
                            have g_358 : (-5 : Int32).toInt = -5 := by decide
                            refine s_X8_refuse ((-5 : Int32)) z _ ht  (fun r_339 z_340 tz_340 o_360 hp_359 => ?_)
                            have oz_340 : Same [8, 1308] [14, 15, 16, 17, 18, 19, 20] z z_340 := (Same.rf (z := z)).tr o_360 (by decide) (by decide)
                            have xz_340 : RX z_340 := RX_same hrx o_360 (by decide) (by decide) (by decide) (by decide) (by decide) (by decide)
                            have f_361 : 0 ≤ (gI z_340 1308).toInt ∧ (gI z_340 1308).toInt ≤ 16 := tz_340.1 1308
                            have q_362 := (o_360.fi 1308 (by decide))
                            exact hk r_339 z_340 tz_340 oz_340 xz_340 (by first | exact Or.inl ⟨(by omega), (by omega), fun g => by unfold GJ at g; omega⟩ | exact Or.inr (Or.inl ⟨(by omega), (by omega), (by omega), (by unfold GJ; exact ⟨by omega, by omega, by omega, by omega, by omega, by omega, fun _ => by omega, fun _ => by omega, fun _ => by omega⟩)⟩) | exact Or.inr (Or.inr (Or.inl ⟨(by omega), (by omega), (by omega), (by omega), (by unfold GJ; exact ⟨by omega, by omega, by omega, by omega, by omega, by omega, fun _ => by omega, fun _ => by omega, fun _ => by omega⟩)⟩)) | exact Or.inr (Or.inr (Or.inr ⟨(by omega), (by omega), (by omega), (by omega), (by unfold GJ; exact ⟨by omega, by omega, by omega, by omega, by omega, by omega, fun _ => by omega, fun _ => by omega, fun _ => by omega⟩)⟩)))
                        · subst er_331
                          have f_363 : 0 ≤ (gI z 705).toInt ∧ (gI z 705).toInt ≤ 4 := ht.1 705
                          refine ⟨fun hc => absurd hc (by decide), fun _ => ?_⟩
                          have g_364 : (-2 : Int32).toInt = -2 := by decide
                          refine s_X8_refuse ((-2 : Int32)) z _ ht  (fun r_341 z_342 tz_342 o_366 hp_365 => ?_)
                          have oz_342 : Same [8, 1308] [14, 15, 16, 17, 18, 19, 20] z z_342 := (Same.rf (z := z)).tr o_366 (by decide) (by decide)
                          have xz_342 : RX z_342 := RX_same hrx o_366 (by decide) (by decide) (by decide) (by decide) (by decide) (by decide)
                          have f_367 : 0 ≤ (gI z_342 1308).toInt ∧ (gI z_342 1308).toInt ≤ 16 := tz_342.1 1308
                          have q_368 := (o_366.fi 1308 (by decide))
                          have f_369 : 0 ≤ (gI z 1308).toInt ∧ (gI z 1308).toInt ≤ 16 := ht.1 1308
                          exact hk r_341 z_342 tz_342 oz_342 xz_342 (by first | exact Or.inl ⟨(by omega), (by omega), fun g => by unfold GJ at g; omega⟩ | exact Or.inr (Or.inl ⟨(by omega), (by omega), (by omega), (by unfold GJ; exact ⟨by omega, by omega, by omega, by omega, by omega, by omega, fun _ => by omega, fun _ => by omega, fun _ => by omega⟩)⟩) | exact Or.inr (Or.inr (Or.inl ⟨(by omega), (by omega), (by omega), (by omega), (by unfold GJ; exact ⟨by omega, by omega, by omega, by omega, by omega, by omega, fun _ => by omega, fun _ => by omega, fun _ => by omega⟩)⟩)) | exact Or.inr (Or.inr (Or.inr ⟨(by omega), (by omega), (by omega), (by omega), (by unfold GJ; exact ⟨by omega, by omega, by omega, by omega, by omega, by omega, fun _ => by omega, fun _ => by omega, fun _ => by omega⟩)⟩)))
                      · skip
                        have i_370 := i_nle rfl (show (3 : Int32).toInt = 3 by decide) c_326
                        refine s_X8_isNeed b8 z _ ht  (fun r_327 hp_371 => ?_)
                        rcases hp_371 with ⟨er_327, hp_371⟩ | ⟨er_327, hp_371⟩
                        · subst er_327
                          refine ⟨fun _ => ?_, fun hc => absurd hc (by decide)⟩
                          refine hK_329  ?_
                          refine s_X0_has b1 z _ ht  (fun r_372 hp_384 => ?_)
                          rcases hp_384 with ⟨er_372, hp_384⟩ | ⟨er_372, hp_384⟩
                          · subst er_372
                            have f_385 : 0 ≤ (gI z 705).toInt ∧ (gI z 705).toInt ≤ 4 := ht.1 705
                            refine ⟨fun _ => ?_, fun hc => absurd hc (by decide)⟩
                            refine ⟨fun c_374 => ?_, fun c_374 => ?_⟩
                            · skip
                              have f_386 : 0 ≤ (gI z 1308).toInt ∧ (gI z 1308).toInt ≤ 16 := ht.1 1308
                              have i_387 := i_lt rfl (show (16 : Int32).toInt = 16 by decide) c_374
                              refine s_X1_add b1 b2 b3 b4 z _ ht hrx (by omega) (by omega) (by omega) (by omega) (by omega) (by omega) (fun r_375 z_376 tz_376 o_389 xz_376 hp_388 => ?_)
                              have oz_376 : Same [8, 1308] [14, 15, 16, 17, 18, 19, 20] z z_376 := (Same.rf (z := z)).tr o_389 (by decide) (by decide)
                              have f_390 : 0 ≤ (gI z_376 1308).toInt ∧ (gI z_376 1308).toInt ≤ 16 := tz_376.1 1308
                              refine s_X1_setNeeds r_375 b5 b6 b7 b8 z_376 _ tz_376 (by omega) (fun z_377 tz_377 o_392 hp_391 => ?_)
                              have oz_377 : Same [8, 1308] [14, 15, 16, 17, 18, 19, 20] z z_377 := oz_376.tr o_392 (by decide) (by decide)
                              have xz_377 : RX z_377 := RX_same xz_376 o_392 (by decide) (by decide) (by decide) (by decide) (by decide) (by decide)
                              refine s_X8_accept r_375 z_377 _ tz_377  (fun r_378 z_379 tz_379 o_394 hp_393 => ?_)
                              have oz_379 : Same [8, 1308] [14, 15, 16, 17, 18, 19, 20] z z_379 := oz_377.tr o_394 (by decide) (by decide)
                              have xz_379 : RX z_379 := RX_same xz_377 o_394 (by decide) (by decide) (by decide) (by decide) (by decide) (by decide)
                              have f_395 : 0 ≤ (gI z_379 1308).toInt ∧ (gI z_379 1308).toInt ≤ 16 := tz_379.1 1308
                              have q_396 := ((o_394.fi 1308 (by decide))).trans (o_392.fi 1308 (by decide))
                              exact hk r_378 z_379 tz_379 oz_379 xz_379 (by first | exact Or.inl ⟨(by omega), (by omega), fun g => by unfold GJ at g; omega⟩ | exact Or.inr (Or.inl ⟨(by omega), (by omega), (by omega), (by unfold GJ; exact ⟨by omega, by omega, by omega, by omega, by omega, by omega, fun _ => by omega, fun _ => by omega, fun _ => by omega⟩)⟩) | exact Or.inr (Or.inr (Or.inl ⟨(by omega), (by omega), (by omega), (by omega), (by unfold GJ; exact ⟨by omega, by omega, by omega, by omega, by omega, by omega, fun _ => by omega, fun _ => by omega, fun _ => by omega⟩)⟩)) | exact Or.inr (Or.inr (Or.inr ⟨(by omega), (by omega), (by omega), (by omega), (by unfold GJ; exact ⟨by omega, by omega, by omega, by omega, by omega, by omega, fun _ => by omega, fun _ => by omega, fun _ => by omega⟩)⟩)))
                            · skip
                              have f_397 : 0 ≤ (gI z 1308).toInt ∧ (gI z 1308).toInt ≤ 16 := ht.1 1308
                              have i_398 := i_nlt rfl (show (16 : Int32).toInt = 16 by decide) c_374
                              have g_399 : (-5 : Int32).toInt = -5 := by decide
                              refine s_X8_refuse ((-5 : Int32)) z _ ht  (fun r_380 z_381 tz_381 o_401 hp_400 => ?_)
                              have oz_381 : Same [8, 1308] [14, 15, 16, 17, 18, 19, 20] z z_381 := (Same.rf (z := z)).tr o_401 (by decide) (by decide)
                              have xz_381 : RX z_381 := RX_same hrx o_401 (by decide) (by decide) (by decide) (by decide) (by decide) (by decide)
                              have f_402 : 0 ≤ (gI z_381 1308).toInt ∧ (gI z_381 1308).toInt ≤ 16 := tz_381.1 1308
                              have q_403 := (o_401.fi 1308 (by decide))
                              exact hk r_380 z_381 tz_381 oz_381 xz_381 (by first | exact Or.inl ⟨(by omega), (by omega), fun g => by unfold GJ at g; omega⟩ | exact Or.inr (Or.inl ⟨(by omega), (by omega), (by omega), (by unfold GJ; exact ⟨by omega, by omega, by omega, by omega, by omega, by omega, fun _ => by omega, fun _ => by omega, fun _ => by omega⟩)⟩) | exact Or.inr (Or.inr (Or.inl ⟨(by omega), (by omega), (by omega), (by omega), (by unfold GJ; exact ⟨by omega, by omega, by omega, by omega, by omega, by omega, fun _ => by omega, fun _ => by omega, fun _ => by omega⟩)⟩)) | exact Or.inr (Or.inr (Or.inr ⟨(by omega), (by omega), (by omega), (by omega), (by unfold GJ; exact ⟨by omega, by omega, by omega, by omega, by omega, by omega, fun _ => by omega, fun _ => by omega, fun _ => by omega⟩)⟩)))
                          · subst er_372
                            have f_404 : 0 ≤ (gI z 705).toInt ∧ (gI z 705).toInt ≤ 4 := ht.1 705
                            refine ⟨fun hc => absurd hc (by decide), fun _ => ?_⟩
                            have g_405 : (-2 : Int32).toInt = -2 := by decide
                            refine s_X8_refuse ((-2 : Int32)) z _ ht  (fun r_382 z_383 tz_383 o_407 hp_406 => ?_)
                            have oz_383 : Same [8, 1308] [14, 15, 16, 17, 18, 19, 20] z z_383 := (Same.rf (z := z)).tr o_407 (by decide) (by decide)
                            have xz_383 : RX z_383 := RX_same hrx o_407 (by decide) (by decide) (by decide) (by decide) (by decide) (by decide)
                            have f_408 : 0 ≤ (gI z_383 1308).toInt ∧ (gI z_383 1308).toInt ≤ 16 := tz_383.1 1308
                            have q_409 := (o_407.fi 1308 (by decide))
                            have f_410 : 0 ≤ (gI z 1308).toInt ∧ (gI z 1308).toInt ≤ 16 := ht.1 1308
                            exact hk r_382 z_383 tz_383 oz_383 xz_383 (by first | exact Or.inl ⟨(by omega), (by omega), fun g => by unfold GJ at g; omega⟩ | exact Or.inr (Or.inl ⟨(by omega), (by omega), (by omega), (by unfold GJ; exact ⟨by omega, by omega, by omega, by omega, by omega, by omega, fun _ => by omega, fun _ => by omega, fun _ => by omega⟩)⟩) | exact Or.inr (Or.inr (Or.inl ⟨(by omega), (by omega), (by omega), (by omega), (by unfold GJ; exact ⟨by omega, by omega, by omega, by omega, by omega, by omega, fun _ => by omega, fun _ => by omega, fun _ => by omega⟩)⟩)) | exact Or.inr (Or.inr (Or.inr ⟨(by omega), (by omega), (by omega), (by omega), (by unfold GJ; exact ⟨by omega, by omega, by omega, by omega, by omega, by omega, fun _ => by omega, fun _ => by omega, fun _ => by omega⟩)⟩)))
                        · subst er_327
                          refine ⟨fun hc => absurd hc (by decide), fun _ => ?_⟩
                          refine hK_39  ?_
                          have g_413 : (-1 : Int32).toInt = -1 := by decide
                          refine s_X8_refuse ((-1 : Int32)) z _ ht  (fun r_411 z_412 tz_412 o_415 hp_414 => ?_)
                          have oz_412 : Same [8, 1308] [14, 15, 16, 17, 18, 19, 20] z z_412 := (Same.rf (z := z)).tr o_415 (by decide) (by decide)
                          have xz_412 : RX z_412 := RX_same hrx o_415 (by decide) (by decide) (by decide) (by decide) (by decide) (by decide)
                          have f_416 : 0 ≤ (gI z_412 1308).toInt ∧ (gI z_412 1308).toInt ≤ 16 := tz_412.1 1308
                          have q_417 := (o_415.fi 1308 (by decide))
                          have f_418 : 0 ≤ (gI z 1308).toInt ∧ (gI z 1308).toInt ≤ 16 := ht.1 1308
                          have f_419 : 0 ≤ (gI z 705).toInt ∧ (gI z 705).toInt ≤ 4 := ht.1 705
                          exact hk r_411 z_412 tz_412 oz_412 xz_412 (by first | exact Or.inl ⟨(by omega), (by omega), fun g => by unfold GJ at g; omega⟩ | exact Or.inr (Or.inl ⟨(by omega), (by omega), (by omega), (by unfold GJ; exact ⟨by omega, by omega, by omega, by omega, by omega, by omega, fun _ => by omega, fun _ => by omega, fun _ => by omega⟩)⟩) | exact Or.inr (Or.inr (Or.inl ⟨(by omega), (by omega), (by omega), (by omega), (by unfold GJ; exact ⟨by omega, by omega, by omega, by omega, by omega, by omega, fun _ => by omega, fun _ => by omega, fun _ => by omega⟩)⟩)) | exact Or.inr (Or.inr (Or.inr ⟨(by omega), (by omega), (by omega), (by omega), (by unfold GJ; exact ⟨by omega, by omega, by omega, by omega, by omega, by omega, fun _ => by omega, fun _ => by omega, fun _ => by omega⟩)⟩)))
                    · skip
                      have i_420 := i_nle rfl (show (2 : Int32).toInt = 2 by decide) c_308
                      refine s_X8_isNeed b7 z _ ht  (fun r_309 hp_421 => ?_)
                      rcases hp_421 with ⟨er_309, hp_421⟩ | ⟨er_309, hp_421⟩
                      · subst er_309
                        refine ⟨fun hc => absurd hc (by decide), fun _ => ?_⟩
                        refine hK_311  ?_
                        intro K_422 hK_438
                        refine ⟨fun c_435 => ?_, fun c_435 => ?_⟩
                        · skip
                          have i_439 := i_le rfl (show (3 : Int32).toInt = 3 by decide) c_435
                          refine hK_438  ?_
                          refine s_X0_has b1 z _ ht  (fun r_440 hp_452 => ?_)
                          rcases hp_452 with ⟨er_440, hp_452⟩ | ⟨er_440, hp_452⟩
                          · subst er_440
                            have f_453 : 0 ≤ (gI z 705).toInt ∧ (gI z 705).toInt ≤ 4 := ht.1 705
                            refine ⟨fun _ => ?_, fun hc => absurd hc (by decide)⟩
                            refine ⟨fun c_442 => ?_, fun c_442 => ?_⟩
                            · skip
                              have f_454 : 0 ≤ (gI z 1308).toInt ∧ (gI z 1308).toInt ≤ 16 := ht.1 1308
                              have i_455 := i_lt rfl (show (16 : Int32).toInt = 16 by decide) c_442
                              refine s_X1_add b1 b2 b3 b4 z _ ht hrx (by omega) (by omega) (by omega) (by omega) (by omega) (by omega) (fun r_443 z_444 tz_444 o_457 xz_444 hp_456 => ?_)
                              have oz_444 : Same [8, 1308] [14, 15, 16, 17, 18, 19, 20] z z_444 := (Same.rf (z := z)).tr o_457 (by decide) (by decide)
                              have f_458 : 0 ≤ (gI z_444 1308).toInt ∧ (gI z_444 1308).toInt ≤ 16 := tz_444.1 1308
                              refine s_X1_setNeeds r_443 b5 b6 b7 b8 z_444 _ tz_444 (by omega) (fun z_445 tz_445 o_460 hp_459 => ?_)
                              have oz_445 : Same [8, 1308] [14, 15, 16, 17, 18, 19, 20] z z_445 := oz_444.tr o_460 (by decide) (by decide)
                              have xz_445 : RX z_445 := RX_same xz_444 o_460 (by decide) (by decide) (by decide) (by decide) (by decide) (by decide)
                              refine s_X8_accept r_443 z_445 _ tz_445  (fun r_446 z_447 tz_447 o_462 hp_461 => ?_)
                              have oz_447 : Same [8, 1308] [14, 15, 16, 17, 18, 19, 20] z z_447 := oz_445.tr o_462 (by decide) (by decide)
                              have xz_447 : RX z_447 := RX_same xz_445 o_462 (by decide) (by decide) (by decide) (by decide) (by decide) (by decide)
                              have f_463 : 0 ≤ (gI z_447 1308).toInt ∧ (gI z_447 1308).toInt ≤ 16 := tz_447.1 1308
                              have q_464 := ((o_462.fi 1308 (by decide))).trans (o_460.fi 1308 (by decide))
                              exact hk r_446 z_447 tz_447 oz_447 xz_447 (by first | exact Or.inl ⟨(by omega), (by omega), fun g => by unfold GJ at g; omega⟩ | exact Or.inr (Or.inl ⟨(by omega), (by omega), (by omega), (by unfold GJ; exact ⟨by omega, by omega, by omega, by omega, by omega, by omega, fun _ => by omega, fun _ => by omega, fun _ => by omega⟩)⟩) | exact Or.inr (Or.inr (Or.inl ⟨(by omega), (by omega), (by omega), (by omega), (by unfold GJ; exact ⟨by omega, by omega, by omega, by omega, by omega, by omega, fun _ => by omega, fun _ => by omega, fun _ => by omega⟩)⟩)) | exact Or.inr (Or.inr (Or.inr ⟨(by omega), (by omega), (by omega), (by omega), (by unfold GJ; exact ⟨by omega, by omega, by omega, by omega, by omega, by omega, fun _ => by omega, fun _ => by omega, fun _ => by omega⟩)⟩)))
                            · skip
                              have f_465 : 0 ≤ (gI z 1308).toInt ∧ (gI z 1308).toInt ≤ 16 := ht.1 1308
                              have i_466 := i_nlt rfl (show (16 : Int32).toInt = 16 by decide) c_442
                              have g_467 : (-5 : Int32).toInt = -5 := by decide
                              refine s_X8_refuse ((-5 : Int32)) z _ ht  (fun r_448 z_449 tz_449 o_469 hp_468 => ?_)
                              have oz_449 : Same [8, 1308] [14, 15, 16, 17, 18, 19, 20] z z_449 := (Same.rf (z := z)).tr o_469 (by decide) (by decide)
                              have xz_449 : RX z_449 := RX_same hrx o_469 (by decide) (by decide) (by decide) (by decide) (by decide) (by decide)
                              have f_470 : 0 ≤ (gI z_449 1308).toInt ∧ (gI z_449 1308).toInt ≤ 16 := tz_449.1 1308
                              have q_471 := (o_469.fi 1308 (by decide))
                              exact hk r_448 z_449 tz_449 oz_449 xz_449 (by first | exact Or.inl ⟨(by omega), (by omega), fun g => by unfold GJ at g; omega⟩ | exact Or.inr (Or.inl ⟨(by omega), (by omega), (by omega), (by unfold GJ; exact ⟨by omega, by omega, by omega, by omega, by omega, by omega, fun _ => by omega, fun _ => by omega, fun _ => by omega⟩)⟩) | exact Or.inr (Or.inr (Or.inl ⟨(by omega), (by omega), (by omega), (by omega), (by unfold GJ; exact ⟨by omega, by omega, by omega, by omega, by omega, by omega, fun _ => by omega, fun _ => by omega, fun _ => by omega⟩)⟩)) | exact Or.inr (Or.inr (Or.inr ⟨(by omega), (by omega), (by omega), (by omega), (by unfold GJ; exact ⟨by omega, by omega, by omega, by omega, by omega, by omega, fun _ => by omega, fun _ => by omega, fun _ => by omega⟩)⟩)))
                          · subst er_440
                            have f_472 : 0 ≤ (gI z 705).toInt ∧ (gI z 705).toInt ≤ 4 := ht.1 705
                            refine ⟨fun hc => absurd hc (by decide), fun _ => ?_⟩
                            have g_473 : (-2 : Int32).toInt = -2 := by decide
                            refine s_X8_refuse ((-2 : Int32)) z _ ht  (fun r_450 z_451 tz_451 o_475 hp_474 => ?_)
                            have oz_451 : Same [8, 1308] [14, 15, 16, 17, 18, 19, 20] z z_451 := (Same.rf (z := z)).tr o_475 (by decide) (by decide)
                            have xz_451 : RX z_451 := RX_same hrx o_475 (by decide) (by decide) (by decide) (by decide) (by decide) (by decide)
                            have f_476 : 0 ≤ (gI z_451 1308).toInt ∧ (gI z_451 1308).toInt ≤ 16 := tz_451.1 1308
                            have q_477 := (o_475.fi 1308 (by decide))
                            have f_478 : 0 ≤ (gI z 1308).toInt ∧ (gI z 1308).toInt ≤ 16 := ht.1 1308
                            exact hk r_450 z_451 tz_451 oz_451 xz_451 (by first | exact Or.inl ⟨(by omega), (by omega), fun g => by unfold GJ at g; omega⟩ | exact Or.inr (Or.inl ⟨(by omega), (by omega), (by omega), (by unfold GJ; exact ⟨by omega, by omega, by omega, by omega, by omega, by omega, fun _ => by omega, fun _ => by omega, fun _ => by omega⟩)⟩) | exact Or.inr (Or.inr (Or.inl ⟨(by omega), (by omega), (by omega), (by omega), (by unfold GJ; exact ⟨by omega, by omega, by omega, by omega, by omega, by omega, fun _ => by omega, fun _ => by omega, fun _ => by omega⟩)⟩)) | exact Or.inr (Or.inr (Or.inr ⟨(by omega), (by omega), (by omega), (by omega), (by unfold GJ; exact ⟨by omega, by omega, by omega, by omega, by omega, by omega, fun _ => by omega, fun _ => by omega, fun _ => by omega⟩)⟩)))
                        · skip
                          have i_479 := i_nle rfl (show (3 : Int32).toInt = 3 by decide) c_435
                          refine s_X8_isNeed b8 z _ ht  (fun r_436 hp_480 => ?_)
                          rcases hp_480 with ⟨er_436, hp_480⟩ | ⟨er_436, hp_480⟩
                          · subst er_436
                            refine ⟨fun _ => ?_, fun hc => absurd hc (by decide)⟩
                            refine hK_438  ?_
                            refine s_X0_has b1 z _ ht  (fun r_481 hp_493 => ?_)
                            rcases hp_493 with ⟨er_481, hp_493⟩ | ⟨er_481, hp_493⟩
                            · subst er_481
                              have f_494 : 0 ≤ (gI z 705).toInt ∧ (gI z 705).toInt ≤ 4 := ht.1 705
                              refine ⟨fun _ => ?_, fun hc => absurd hc (by decide)⟩
                              refine ⟨fun c_483 => ?_, fun c_483 => ?_⟩
                              · skip
                                have f_495 : 0 ≤ (gI z 1308).toInt ∧ (gI z 1308).toInt ≤ 16 := ht.1 1308
                                have i_496 := i_lt rfl (show (16 : Int32).toInt = 16 by decide) c_483
                                refine s_X1_add b1 b2 b3 b4 z _ ht hrx (by omega) (by omega) (by omega) (by omega) (by omega) (by omega) (fun r_484 z_485 tz_485 o_498 xz_485 hp_497 => ?_)
                                have oz_485 : Same [8, 1308] [14, 15, 16, 17, 18, 19, 20] z z_485 := (Same.rf (z := z)).tr o_498 (by decide) (by decide)
                                have f_499 : 0 ≤ (gI z_485 1308).toInt ∧ (gI z_485 1308).toInt ≤ 16 := tz_485.1 1308
                                refine s_X1_setNeeds r_484 b5 b6 b7 b8 z_485 _ tz_485 (by omega) (fun z_486 tz_486 o_501 hp_500 => ?_)
                                have oz_486 : Same [8, 1308] [14, 15, 16, 17, 18, 19, 20] z z_486 := oz_485.tr o_501 (by decide) (by decide)
                                have xz_486 : RX z_486 := RX_same xz_485 o_501 (by decide) (by decide) (by decide) (by decide) (by decide) (by decide)
                                refine s_X8_accept r_484 z_486 _ tz_486  (fun r_487 z_488 tz_488 o_503 hp_502 => ?_)
                                have oz_488 : Same [8, 1308] [14, 15, 16, 17, 18, 19, 20] z z_488 := oz_486.tr o_503 (by decide) (by decide)
                                have xz_488 : RX z_488 := RX_same xz_486 o_503 (by decide) (by decide) (by decide) (by decide) (by decide) (by decide)
                                have f_504 : 0 ≤ (gI z_488 1308).toInt ∧ (gI z_488 1308).toInt ≤ 16 := tz_488.1 1308
                                have q_505 := ((o_503.fi 1308 (by decide))).trans (o_501.fi 1308 (by decide))
                                exact hk r_487 z_488 tz_488 oz_488 xz_488 (by first | exact Or.inl ⟨(by omega), (by omega), fun g => by unfold GJ at g; omega⟩ | exact Or.inr (Or.inl ⟨(by omega), (by omega), (by omega), (by unfold GJ; exact ⟨by omega, by omega, by omega, by omega, by omega, by omega, fun _ => by omega, fun _ => by omega, fun _ => by omega⟩)⟩) | exact Or.inr (Or.inr (Or.inl ⟨(by omega), (by omega), (by omega), (by omega), (by unfold GJ; exact ⟨by omega, by omega, by omega, by omega, by omega, by omega, fun _ => by omega, fun _ => by omega, fun _ => by omega⟩)⟩)) | exact Or.inr (Or.inr (Or.inr ⟨(by omega), (by omega), (by omega), (by omega), (by unfold GJ; exact ⟨by omega, by omega, by omega, by omega, by omega, by omega, fun _ => by omega, fun _ => by omega, fun _ => by omega⟩)⟩)))
                              · skip
                                have f_506 : 0 ≤ (gI z 1308).toInt ∧ (gI z 1308).toInt ≤ 16 := ht.1 1308
                                have i_507 := i_nlt rfl (show (16 : Int32).toInt = 16 by decide) c_483
                                have g_508 : (-5 : Int32).toInt = -5 := by decide
                                refine s_X8_refuse ((-5 : Int32)) z _ ht  (fun r_489 z_490 tz_490 o_510 hp_509 => ?_)
                                have oz_490 : Same [8, 1308] [14, 15, 16, 17, 18, 19, 20] z z_490 := (Same.rf (z := z)).tr o_510 (by decide) (by decide)
                                have xz_490 : RX z_490 := RX_same hrx o_510 (by decide) (by decide) (by decide) (by decide) (by decide) (by decide)
                                have f_511 : 0 ≤ (gI z_490 1308).toInt ∧ (gI z_490 1308).toInt ≤ 16 := tz_490.1 1308
                                have q_512 := (o_510.fi 1308 (by decide))
                                exact hk r_489 z_490 tz_490 oz_490 xz_490 (by first | exact Or.inl ⟨(by omega), (by omega), fun g => by unfold GJ at g; omega⟩ | exact Or.inr (Or.inl ⟨(by omega), (by omega), (by omega), (by unfold GJ; exact ⟨by omega, by omega, by omega, by omega, by omega, by omega, fun _ => by omega, fun _ => by omega, fun _ => by omega⟩)⟩) | exact Or.inr (Or.inr (Or.inl ⟨(by omega), (by omega), (by omega), (by omega), (by unfold GJ; exact ⟨by omega, by omega, by omega, by omega, by omega, by omega, fun _ => by omega, fun _ => by omega, fun _ => by omega⟩)⟩)) | exact Or.inr (Or.inr (Or.inr ⟨(by omega), (by omega), (by omega), (by omega), (by unfold GJ; exact ⟨by omega, by omega, by omega, by omega, by omega, by omega, fun _ => by omega, fun _ => by omega, fun _ => by omega⟩)⟩)))
                            · subst er_481
                              have f_513 : 0 ≤ (gI z 705).toInt ∧ (gI z 705).toInt ≤ 4 := ht.1 705
                              refine ⟨fun hc => absurd hc (by decide), fun _ => ?_⟩
                              have g_514 : (-2 : Int32).toInt = -2 := by decide
                              refine s_X8_refuse ((-2 : Int32)) z _ ht  (fun r_491 z_492 tz_492 o_516 hp_515 => ?_)
                              have oz_492 : Same [8, 1308] [14, 15, 16, 17, 18, 19, 20] z z_492 := (Same.rf (z := z)).tr o_516 (by decide) (by decide)
                              have xz_492 : RX z_492 := RX_same hrx o_516 (by decide) (by decide) (by decide) (by decide) (by decide) (by decide)
                              have f_517 : 0 ≤ (gI z_492 1308).toInt ∧ (gI z_492 1308).toInt ≤ 16 := tz_492.1 1308
                              have q_518 := (o_516.fi 1308 (by decide))
                              have f_519 : 0 ≤ (gI z 1308).toInt ∧ (gI z 1308).toInt ≤ 16 := ht.1 1308
                              exact hk r_491 z_492 tz_492 oz_492 xz_492 (by first | exact Or.inl ⟨(by omega), (by omega), fun g => by unfold GJ at g; omega⟩ | exact Or.inr (Or.inl ⟨(by omega), (by omega), (by omega), (by unfold GJ; exact ⟨by omega, by omega, by omega, by omega, by omega, by omega, fun _ => by omega, fun _ => by omega, fun _ => by omega⟩)⟩) | exact Or.inr (Or.inr (Or.inl ⟨(by omega), (by omega), (by omega), (by omega), (by unfold GJ; exact ⟨by omega, by omega, by omega, by omega, by omega, by omega, fun _ => by omega, fun _ => by omega, fun _ => by omega⟩)⟩)) | exact Or.inr (Or.inr (Or.inr ⟨(by omega), (by omega), (by omega), (by omega), (by unfold GJ; exact ⟨by omega, by omega, by omega, by omega, by omega, by omega, fun _ => by omega, fun _ => by omega, fun _ => by omega⟩)⟩)))
                          · subst er_436
                            refine ⟨fun hc => absurd hc (by decide), fun _ => ?_⟩
                            refine hK_39  ?_
                            have g_522 : (-1 : Int32).toInt = -1 := by decide
                            refine s_X8_refuse ((-1 : Int32)) z _ ht  (fun r_520 z_521 tz_521 o_524 hp_523 => ?_)
                            have oz_521 : Same [8, 1308] [14, 15, 16, 17, 18, 19, 20] z z_521 := (Same.rf (z := z)).tr o_524 (by decide) (by decide)
                            have xz_521 : RX z_521 := RX_same hrx o_524 (by decide) (by decide) (by decide) (by decide) (by decide) (by decide)
                            have f_525 : 0 ≤ (gI z_521 1308).toInt ∧ (gI z_521 1308).toInt ≤ 16 := tz_521.1 1308
                            have q_526 := (o_524.fi 1308 (by decide))
                            have f_527 : 0 ≤ (gI z 1308).toInt ∧ (gI z 1308).toInt ≤ 16 := ht.1 1308
                            have f_528 : 0 ≤ (gI z 705).toInt ∧ (gI z 705).toInt ≤ 4 := ht.1 705
                            exact hk r_520 z_521 tz_521 oz_521 xz_521 (by first | exact Or.inl ⟨(by omega), (by omega), fun g => by unfold GJ at g; omega⟩ | exact Or.inr (Or.inl ⟨(by omega), (by omega), (by omega), (by unfold GJ; exact ⟨by omega, by omega, by omega, by omega, by omega, by omega, fun _ => by omega, fun _ => by omega, fun _ => by omega⟩)⟩) | exact Or.inr (Or.inr (Or.inl ⟨(by omega), (by omega), (by omega), (by omega), (by unfold GJ; exact ⟨by omega, by omega, by omega, by omega, by omega, by omega, fun _ => by omega, fun _ => by omega, fun _ => by omega⟩)⟩)) | exact Or.inr (Or.inr (Or.inr ⟨(by omega), (by omega), (by omega), (by omega), (by unfold GJ; exact ⟨by omega, by omega, by omega, by omega, by omega, by omega, fun _ => by omega, fun _ => by omega, fun _ => by omega⟩)⟩)))
                      · subst er_309
                        refine ⟨fun _ => ?_, fun hc => absurd (show ((0 : Int32)) = ((0 : Int32)) by decide) hc⟩
                        refine hK_39  ?_
                        have g_531 : (-1 : Int32).toInt = -1 := by decide
                        refine s_X8_refuse ((-1 : Int32)) z _ ht  (fun r_529 z_530 tz_530 o_533 hp_532 => ?_)
                        have oz_530 : Same [8, 1308] [14, 15, 16, 17, 18, 19, 20] z z_530 := (Same.rf (z := z)).tr o_533 (by decide) (by decide)
                        have xz_530 : RX z_530 := RX_same hrx o_533 (by decide) (by decide) (by decide) (by decide) (by decide) (by decide)
                        have f_534 : 0 ≤ (gI z_530 1308).toInt ∧ (gI z_530 1308).toInt ≤ 16 := tz_530.1 1308
                        have q_535 := (o_533.fi 1308 (by decide))
                        have f_536 : 0 ≤ (gI z 1308).toInt ∧ (gI z 1308).toInt ≤ 16 := ht.1 1308
                        have f_537 : 0 ≤ (gI z 705).toInt ∧ (gI z 705).toInt ≤ 4 := ht.1 705
                        exact hk r_529 z_530 tz_530 oz_530 xz_530 (by first | exact Or.inl ⟨(by omega), (by omega), fun g => by unfold GJ at g; omega⟩ | exact Or.inr (Or.inl ⟨(by omega), (by omega), (by omega), (by unfold GJ; exact ⟨by omega, by omega, by omega, by omega, by omega, by omega, fun _ => by omega, fun _ => by omega, fun _ => by omega⟩)⟩) | exact Or.inr (Or.inr (Or.inl ⟨(by omega), (by omega), (by omega), (by omega), (by unfold GJ; exact ⟨by omega, by omega, by omega, by omega, by omega, by omega, fun _ => by omega, fun _ => by omega, fun _ => by omega⟩)⟩)) | exact Or.inr (Or.inr (Or.inr ⟨(by omega), (by omega), (by omega), (by omega), (by unfold GJ; exact ⟨by omega, by omega, by omega, by omega, by omega, by omega, fun _ => by omega, fun _ => by omega, fun _ => by omega⟩)⟩)))
                  · subst er47
                    refine ⟨fun _ => ?_, fun hc => absurd (show ((0 : Int32)) = ((0 : Int32)) by decide) hc⟩
                    refine hK_39  ?_
                    have g_540 : (-1 : Int32).toInt = -1 := by decide
                    refine s_X8_refuse ((-1 : Int32)) z _ ht  (fun r_538 z_539 tz_539 o_542 hp_541 => ?_)
                    have oz_539 : Same [8, 1308] [14, 15, 16, 17, 18, 19, 20] z z_539 := (Same.rf (z := z)).tr o_542 (by decide) (by decide)
                    have xz_539 : RX z_539 := RX_same hrx o_542 (by decide) (by decide) (by decide) (by decide) (by decide) (by decide)
                    have f_543 : 0 ≤ (gI z_539 1308).toInt ∧ (gI z_539 1308).toInt ≤ 16 := tz_539.1 1308
                    have q_544 := (o_542.fi 1308 (by decide))
                    have f_545 : 0 ≤ (gI z 1308).toInt ∧ (gI z 1308).toInt ≤ 16 := ht.1 1308
                    have f_546 : 0 ≤ (gI z 705).toInt ∧ (gI z 705).toInt ≤ 4 := ht.1 705
                    exact hk r_538 z_539 tz_539 oz_539 xz_539 (by first | exact Or.inl ⟨(by omega), (by omega), fun g => by unfold GJ at g; omega⟩ | exact Or.inr (Or.inl ⟨(by omega), (by omega), (by omega), (by unfold GJ; exact ⟨by omega, by omega, by omega, by omega, by omega, by omega, fun _ => by omega, fun _ => by omega, fun _ => by omega⟩)⟩) | exact Or.inr (Or.inr (Or.inl ⟨(by omega), (by omega), (by omega), (by omega), (by unfold GJ; exact ⟨by omega, by omega, by omega, by omega, by omega, by omega, fun _ => by omega, fun _ => by omega, fun _ => by omega⟩)⟩)) | exact Or.inr (Or.inr (Or.inr ⟨(by omega), (by omega), (by omega), (by omega), (by unfold GJ; exact ⟨by omega, by omega, by omega, by omega, by omega, by omega, fun _ => by omega, fun _ => by omega, fun _ => by omega⟩)⟩)))
              · subst er15
                intro K16 hK_547
                refine ⟨fun _ => ?_, fun hc => absurd (show ((0 : Int32)) = ((0 : Int32)) by decide) hc⟩
                refine hK_547  ?_
                have g_550 : (-1 : Int32).toInt = -1 := by decide
                refine s_X8_refuse ((-1 : Int32)) z _ ht  (fun r_548 z_549 tz_549 o_552 hp_551 => ?_)
                have oz_549 : Same [8, 1308] [14, 15, 16, 17, 18, 19, 20] z z_549 := (Same.rf (z := z)).tr o_552 (by decide) (by decide)
                have xz_549 : RX z_549 := RX_same hrx o_552 (by decide) (by decide) (by decide) (by decide) (by decide) (by decide)
                have f_553 : 0 ≤ (gI z_549 1308).toInt ∧ (gI z_549 1308).toInt ≤ 16 := tz_549.1 1308
                have q_554 := (o_552.fi 1308 (by decide))
                have f_555 : 0 ≤ (gI z 1308).toInt ∧ (gI z 1308).toInt ≤ 16 := ht.1 1308
                have f_556 : 0 ≤ (gI z 705).toInt ∧ (gI z 705).toInt ≤ 4 := ht.1 705
                exact hk r_548 z_549 tz_549 oz_549 xz_549 (by first | exact Or.inl ⟨(by omega), (by omega), fun g => by unfold GJ at g; omega⟩ | exact Or.inr (Or.inl ⟨(by omega), (by omega), (by omega), (by unfold GJ; exact ⟨by omega, by omega, by omega, by omega, by omega, by omega, fun _ => by omega, fun _ => by omega, fun _ => by omega⟩)⟩) | exact Or.inr (Or.inr (Or.inl ⟨(by omega), (by omega), (by omega), (by omega), (by unfold GJ; exact ⟨by omega, by omega, by omega, by omega, by omega, by omega, fun _ => by omega, fun _ => by omega, fun _ => by omega⟩)⟩)) | exact Or.inr (Or.inr (Or.inr ⟨(by omega), (by omega), (by omega), (by omega), (by unfold GJ; exact ⟨by omega, by omega, by omega, by omega, by omega, by omega, fun _ => by omega, fun _ => by omega, fun _ => by omega⟩)⟩)))
            · skip
              have i_557 := i_nle rfl (show (4 : Int32).toInt = 4 by decide) c13
              refine hK_2  ?_
              have g_560 : (-1 : Int32).toInt = -1 := by decide
              refine s_X8_refuse ((-1 : Int32)) z _ ht  (fun r_558 z_559 tz_559 o_562 hp_561 => ?_)
              have oz_559 : Same [8, 1308] [14, 15, 16, 17, 18, 19, 20] z z_559 := (Same.rf (z := z)).tr o_562 (by decide) (by decide)
              have xz_559 : RX z_559 := RX_same hrx o_562 (by decide) (by decide) (by decide) (by decide) (by decide) (by decide)
              have f_563 : 0 ≤ (gI z_559 1308).toInt ∧ (gI z_559 1308).toInt ≤ 16 := tz_559.1 1308
              have q_564 := (o_562.fi 1308 (by decide))
              have f_565 : 0 ≤ (gI z 1308).toInt ∧ (gI z 1308).toInt ≤ 16 := ht.1 1308
              have f_566 : 0 ≤ (gI z 705).toInt ∧ (gI z 705).toInt ≤ 4 := ht.1 705
              exact hk r_558 z_559 tz_559 oz_559 xz_559 (by first | exact Or.inl ⟨(by omega), (by omega), fun g => by unfold GJ at g; omega⟩ | exact Or.inr (Or.inl ⟨(by omega), (by omega), (by omega), (by unfold GJ; exact ⟨by omega, by omega, by omega, by omega, by omega, by omega, fun _ => by omega, fun _ => by omega, fun _ => by omega⟩)⟩) | exact Or.inr (Or.inr (Or.inl ⟨(by omega), (by omega), (by omega), (by omega), (by unfold GJ; exact ⟨by omega, by omega, by omega, by omega, by omega, by omega, fun _ => by omega, fun _ => by omega, fun _ => by omega⟩)⟩)) | exact Or.inr (Or.inr (Or.inr ⟨(by omega), (by omega), (by omega), (by omega), (by unfold GJ; exact ⟨by omega, by omega, by omega, by omega, by omega, by omega, fun _ => by omega, fun _ => by omega, fun _ => by omega⟩)⟩)))
    · subst er8
      refine ⟨fun _ => ?_, fun hc => absurd (show ((0 : Int32)) = ((0 : Int32)) by decide) hc⟩
      refine hK_2  ?_
      have g_569 : (-1 : Int32).toInt = -1 := by decide
      refine s_X8_refuse ((-1 : Int32)) z _ ht  (fun r_567 z_568 tz_568 o_571 hp_570 => ?_)
      have oz_568 : Same [8, 1308] [14, 15, 16, 17, 18, 19, 20] z z_568 := (Same.rf (z := z)).tr o_571 (by decide) (by decide)
      have xz_568 : RX z_568 := RX_same hrx o_571 (by decide) (by decide) (by decide) (by decide) (by decide) (by decide)
      have f_572 : 0 ≤ (gI z_568 1308).toInt ∧ (gI z_568 1308).toInt ≤ 16 := tz_568.1 1308
      have q_573 := (o_571.fi 1308 (by decide))
      have f_574 : 0 ≤ (gI z 1308).toInt ∧ (gI z 1308).toInt ≤ 16 := ht.1 1308
      have f_575 : 0 ≤ (gI z 705).toInt ∧ (gI z 705).toInt ≤ 4 := ht.1 705
      exact hk r_567 z_568 tz_568 oz_568 xz_568 (by first | exact Or.inl ⟨(by omega), (by omega), fun g => by unfold GJ at g; omega⟩ | exact Or.inr (Or.inl ⟨(by omega), (by omega), (by omega), (by unfold GJ; exact ⟨by omega, by omega, by omega, by omega, by omega, by omega, fun _ => by omega, fun _ => by omega, fun _ => by omega⟩)⟩) | exact Or.inr (Or.inr (Or.inl ⟨(by omega), (by omega), (by omega), (by omega), (by unfold GJ; exact ⟨by omega, by omega, by omega, by omega, by omega, by omega, fun _ => by omega, fun _ => by omega, fun _ => by omega⟩)⟩)) | exact Or.inr (Or.inr (Or.inr ⟨(by omega), (by omega), (by omega), (by omega), (by unfold GJ; exact ⟨by omega, by omega, by omega, by omega, by omega, by omega, fun _ => by omega, fun _ => by omega, fun _ => by omega⟩)⟩)))
  · subst er2
    intro K3 hK_576
    refine ⟨fun _ => ?_, fun hc => absurd (show ((0 : Int32)) = ((0 : Int32)) by decide) hc⟩
    refine hK_576  ?_
    have g_579 : (-1 : Int32).toInt = -1 := by decide
    refine s_X8_refuse ((-1 : Int32)) z _ ht  (fun r_577 z_578 tz_578 o_581 hp_580 => ?_)
    have oz_578 : Same [8, 1308] [14, 15, 16, 17, 18, 19, 20] z z_578 := (Same.rf (z := z)).tr o_581 (by decide) (by decide)
    have xz_578 : RX z_578 := RX_same hrx o_581 (by decide) (by decide) (by decide) (by decide) (by decide) (by decide)
    have f_582 : 0 ≤ (gI z_578 1308).toInt ∧ (gI z_578 1308).toInt ≤ 16 := tz_578.1 1308
    have q_583 := (o_581.fi 1308 (by decide))
    have f_584 : 0 ≤ (gI z 1308).toInt ∧ (gI z 1308).toInt ≤ 16 := ht.1 1308
    have f_585 : 0 ≤ (gI z 705).toInt ∧ (gI z 705).toInt ≤ 4 := ht.1 705
    exact hk r_577 z_578 tz_578 oz_578 xz_578 (by first | exact Or.inl ⟨(by omega), (by omega), fun g => by unfold GJ at g; omega⟩ | exact Or.inr (Or.inl ⟨(by omega), (by omega), (by omega), (by unfold GJ; exact ⟨by omega, by omega, by omega, by omega, by omega, by omega, fun _ => by omega, fun _ => by omega, fun _ => by omega⟩)⟩) | exact Or.inr (Or.inr (Or.inl ⟨(by omega), (by omega), (by omega), (by omega), (by unfold GJ; exact ⟨by omega, by omega, by omega, by omega, by omega, by omega, fun _ => by omega, fun _ => by omega, fun _ => by omega⟩)⟩)) | exact Or.inr (Or.inr (Or.inr ⟨(by omega), (by omega), (by omega), (by omega), (by unfold GJ; exact ⟨by omega, by omega, by omega, by omega, by omega, by omega, fun _ => by omega, fun _ => by omega, fun _ => by omega⟩)⟩)))

