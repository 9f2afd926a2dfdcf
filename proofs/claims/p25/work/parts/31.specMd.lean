set_option maxHeartbeats 2000000 in
theorem s_X9_next  (z : St) (P : St → Prop) (ht : TM z) (h0 : (gI z 38).toInt ≤ (gI z 36).toInt) (hk : ∀ (z2 : St), TM z2 → Same [37, 38, 39] [] z z2 → ((gI z2 38).toInt ≤ (gI z 36).toInt) → P z2) : wp_X9_next  z P := by
  unfold wp_X9_next
  intro K1 hK_1
  have L_2 : ∀ (n : Nat)  (z2 : St), TM z2 → Same [37, 38, 39] [] z z2 → ((gI z2 37).toInt ≤ (gI z 36).toInt) → ((gI z 36).toInt - (gI z2 37).toInt).toNat < n → K1 z2 := by
    intro n
    induction n with
    | zero => intro z2 tz2 ocz2 w_3 m_5; omega
    | succ n ih_4 =>
      intro z2 tz2 ocz2 w_3 m_5
      have f_6 : 0 ≤ (gI z2 37).toInt ∧ (gI z2 37).toInt ≤ 300 := tz2.1 37
      have f_7 : 0 ≤ (gI z 36).toInt ∧ (gI z 36).toInt ≤ 300 := ht.1 36
      refine hK_1 z2 ?_
      intro K3 hK_8
      refine ⟨fun c43 => ?_, fun c43 => ?_⟩
      · skip
        have f_9 : 0 ≤ (gI z2 36).toInt ∧ (gI z2 36).toInt ≤ 300 := tz2.1 36
        have q_10 := (ocz2.fi 36 (by decide))
        have i_11 := i_le rfl rfl c43
        refine hK_8  ?_
        intro z_12 ez_12
        have tz_12 : TM z_12 := by rw [ez_12]; exact Ty_wI tz2 (show 0 ≤ (gI z2 37).toInt ∧ (gI z2 37).toInt ≤ 300 from by omega)
        have oz_12 : Same [37, 38, 39] [] z z_12 := ocz2.i (by decide) ez_12
        intro z_13 ez_13
        have tz_13 : TM z_13 := by rw [ez_13]; exact Ty_wJ tz_12
        have oz_13 : Same [37, 38, 39] [] z z_13 := oz_12.j ez_13
        intro K_14 hK_47
        refine ⟨fun c_42 => ?_, fun c_42 => ?_⟩
        · skip
          have f_48 : 0 ≤ (gI z_13 37).toInt ∧ (gI z_13 37).toInt ≤ 300 := tz_13.1 37
          have q_49 := ((show (gI z_13 37).toInt = (gI z_12 37).toInt by rw [ez_13]; rfl)).trans (show (gI z_12 37).toInt = (gI z2 37).toInt by rw [ez_12]; rfl)
          have f_50 : 0 ≤ (gI z_13 36).toInt ∧ (gI z_13 36).toInt ≤ 300 := tz_13.1 36
          have q_51 := (((show (gI z_13 36).toInt = (gI z_12 36).toInt by rw [ez_13]; rfl)).trans (show (gI z_12 36).toInt = (gI z2 36).toInt by rw [ez_12]; rfl)).trans (ocz2.fi 36 (by decide))
          have i_52 := i_ne rfl rfl c_42
          refine ⟨vin rfl (by omega) (by omega), ?_⟩
          have q_53 := (((show (gF z_13 25 (gI z_13 37).toNatClampNeg).toInt = (gF z_12 25 (gI z_13 37).toNatClampNeg).toInt by rw [ez_13]; rfl)).trans (show (gF z_12 25 (gI z_13 37).toNatClampNeg).toInt = (gF z2 25 (gI z_13 37).toNatClampNeg).toInt by rw [ez_12]; rfl)).trans (ocz2.ff 25 (gI z_13 37).toNatClampNeg (by decide))
          refine s_X9_isSmall (gF z_13 25 (gI z_13 37).toNatClampNeg) z_13 _ tz_13  (fun r_43 hp_54 => ?_)
          rcases hp_54 with ⟨er_43, hp_54⟩ | ⟨er_43, hp_54⟩
          · subst er_43
            refine ⟨fun hc => absurd hc (by decide), fun _ => ?_⟩
            refine hK_47 ((1 : Int32)) ?_
            intro z_55 ez_55
            have tz_55 : TM z_55 := by rw [ez_55]; exact Ty_wI tz_13 trivial
            have oz_55 : Same [37, 38, 39] [] z z_55 := oz_13.i (by decide) ez_55
            intro K_56 hK_81
            have L_82 : ∀ (n : Nat)  (z_57 : St), TM z_57 → Same [37, 38, 39] [] z z_57 → ((gI z_57 38).toInt ≤ (gI z 36).toInt) → ((gI z 36).toInt - (gI z_57 38).toInt).toNat < n → K_56 z_57 := by
              intro n
              induction n with
              | zero => intro z_57 tz_57 ocz_57 w_83 m_85; omega
              | succ n ih_84 =>
                intro z_57 tz_57 ocz_57 w_83 m_85
                have f_86 : 0 ≤ (gI z_57 38).toInt ∧ (gI z_57 38).toInt ≤ 300 := tz_57.1 38
                refine hK_81 z_57 ?_
                intro K_58 hK_87
                have L_88 : ∀ (n : Nat)  (z_59 : St), TM z_59 → Same [37, 38, 39] [] z z_59 → ((gI z_59 38).toInt ≤ (gI z 36).toInt) → ((gI z 36).toInt - (gI z_59 38).toInt).toNat < n → K_58 z_59 := by
                  intro n
                  induction n with
                  | zero => intro z_59 tz_59 ocz_59 w_89 m_91; omega
                  | succ n ih_90 =>
                    intro z_59 tz_59 ocz_59 w_89 m_91
                    have f_92 : 0 ≤ (gI z_59 38).toInt ∧ (gI z_59 38).toInt ≤ 300 := tz_59.1 38
                    refine hK_87 z_59 ?_
                    refine ⟨fun c_60 => ?_, fun c_60 => ?_⟩
                    · skip
                      have i_93 := i_ne rfl (show (2 : Int32).toInt = 2 by decide) c_60
                      exact hk z_59 tz_59 ocz_59 (by omega)
                    · skip
                      have i_94 := i_eq rfl (show (2 : Int32).toInt = 2 by decide) c_60
                      refine ⟨fun c_61 => ?_, fun c_61 => ?_⟩
                      · skip
                        have f_95 : 0 ≤ (gI z_59 36).toInt ∧ (gI z_59 36).toInt ≤ 300 := tz_59.1 36
                        have q_96 := (ocz_59.fi 36 (by decide))
                        have i_97 := i_le rfl rfl c_61
                        exact hk z_59 tz_59 ocz_59 (by omega)
                      · skip
                        have f_98 : 0 ≤ (gI z_59 36).toInt ∧ (gI z_59 36).toInt ≤ 300 := tz_59.1 36
                        have q_99 := (ocz_59.fi 36 (by decide))
                        have i_100 := i_nle rfl rfl c_61
                        refine ⟨vin rfl (by omega) (by omega), ?_⟩
                        have q_101 := (ocz_59.ff 25 (gI z_59 38).toNatClampNeg (by decide))
                        refine s_X9_isDigit (gF z_59 25 (gI z_59 38).toNatClampNeg) z_59 _ tz_59  (fun r_62 hp_102 => ?_)
                        rcases hp_102 with ⟨er_62, hp_102⟩ | ⟨er_62, hp_102⟩
                        · subst er_62
                          refine ⟨fun hc => absurd hc (by decide), fun _ => ?_⟩
                          intro K_64 hK_103
                          refine ⟨fun c_68 => ?_, fun c_68 => ?_⟩
                          · skip
                            refine ⟨vin rfl (by omega) (by omega), ?_⟩
                            refine hK_103 (((((gJ z_59 40) * (10 : Int64)) + (Int32.toInt64 (gF z_59 25 (gI z_59 38).toNatClampNeg))) - (48 : Int64))) ?_
                            intro z_104 ez_104
                            have tz_104 : TM z_104 := by rw [ez_104]; exact Ty_wJ tz_59
                            have oz_104 : Same [37, 38, 39] [] z z_104 := ocz_59.j ez_104
                            intro z_105 ez_105
                            have f_106 : 0 ≤ (gI z_104 38).toInt ∧ (gI z_104 38).toInt ≤ 300 := tz_104.1 38
                            have q_107 := (show (gI z_104 38).toInt = (gI z_59 38).toInt by rw [ez_104]; rfl)
                            have tz_105 : TM z_105 := by rw [ez_105]; exact Ty_wI tz_104 (show 0 ≤ ((gI z_104 38) + (1 : Int32)).toInt ∧ ((gI z_104 38) + (1 : Int32)).toInt ≤ 300 from by rw [(a_add rfl (show (1 : Int32).toInt = 1 by decide) (by omega) (by omega))]; omega)
                            have oz_105 : Same [37, 38, 39] [] z z_105 := oz_104.i (by decide) ez_105
                            have f_108 : 0 ≤ (gI z_105 38).toInt ∧ (gI z_105 38).toInt ≤ 300 := tz_105.1 38
                            have q_109 := (show (gI z_105 38).toInt = ((gI z_104 38) + (1 : Int32)).toInt by rw [ez_105]; rfl)
                            have q_110 : ((gI z_104 38) + (1 : Int32)).toInt = ((gI z_104 38).toInt + (1)) := (a_add rfl (show (1 : Int32).toInt = 1 by decide) (by omega) (by omega))
                            exact ih_90  z_105 tz_105 oz_105 (by omega) (by omega)
                          · skip
                            refine hK_103 ((gJ z_59 40)) ?_
                            intro z_111 ez_111
                            have tz_111 : TM z_111 := by rw [ez_111]; exact Ty_wJ tz_59
                            have oz_111 : Same [37, 38, 39] [] z z_111 := ocz_59.j ez_111
                            intro z_112 ez_112
                            have f_113 : 0 ≤ (gI z_111 38).toInt ∧ (gI z_111 38).toInt ≤ 300 := tz_111.1 38
                            have q_114 := (show (gI z_111 38).toInt = (gI z_59 38).toInt by rw [ez_111]; rfl)
                            have tz_112 : TM z_112 := by rw [ez_112]; exact Ty_wI tz_111 (show 0 ≤ ((gI z_111 38) + (1 : Int32)).toInt ∧ ((gI z_111 38) + (1 : Int32)).toInt ≤ 300 from by rw [(a_add rfl (show (1 : Int32).toInt = 1 by decide) (by omega) (by omega))]; omega)
                            have oz_112 : Same [37, 38, 39] [] z z_112 := oz_111.i (by decide) ez_112
                            have f_115 : 0 ≤ (gI z_112 38).toInt ∧ (gI z_112 38).toInt ≤ 300 := tz_112.1 38
                            have q_116 := (show (gI z_112 38).toInt = ((gI z_111 38) + (1 : Int32)).toInt by rw [ez_112]; rfl)
                            have q_117 : ((gI z_111 38) + (1 : Int32)).toInt = ((gI z_111 38).toInt + (1)) := (a_add rfl (show (1 : Int32).toInt = 1 by decide) (by omega) (by omega))
                            exact ih_90  z_112 tz_112 oz_112 (by omega) (by omega)
                        · subst er_62
                          refine ⟨fun _ => ?_, fun hc => absurd (show ((0 : Int32)) = ((0 : Int32)) by decide) hc⟩
                          exact hk z_59 tz_59 ocz_59 (by omega)
                refine ⟨fun c_69 => ?_, fun c_69 => ?_⟩
                · skip
                  have i_118 := i_ne rfl (show (1 : Int32).toInt = 1 by decide) c_69
                  exact L_88 (((gI z 36).toInt - (gI z_57 38).toInt).toNat + 1)  z_57 tz_57 ocz_57 (by omega) (by omega)
                · skip
                  have i_119 := i_eq rfl (show (1 : Int32).toInt = 1 by decide) c_69
                  refine ⟨fun c_70 => ?_, fun c_70 => ?_⟩
                  · skip
                    have f_120 : 0 ≤ (gI z_57 36).toInt ∧ (gI z_57 36).toInt ≤ 300 := tz_57.1 36
                    have q_121 := (ocz_57.fi 36 (by decide))
                    have i_122 := i_le rfl rfl c_70
                    exact L_88 (((gI z 36).toInt - (gI z_57 38).toInt).toNat + 1)  z_57 tz_57 ocz_57 (by omega) (by omega)
                  · skip
                    have f_123 : 0 ≤ (gI z_57 36).toInt ∧ (gI z_57 36).toInt ≤ 300 := tz_57.1 36
                    have q_124 := (ocz_57.fi 36 (by decide))
                    have i_125 := i_nle rfl rfl c_70
                    refine ⟨vin rfl (by omega) (by omega), ?_⟩
                    have q_126 := (ocz_57.ff 25 (gI z_57 38).toNatClampNeg (by decide))
                    refine s_X9_isSmall (gF z_57 25 (gI z_57 38).toNatClampNeg) z_57 _ tz_57  (fun r_71 hp_127 => ?_)
                    rcases hp_127 with ⟨er_71, hp_127⟩ | ⟨er_71, hp_127⟩
                    · subst er_71
                      refine ⟨fun hc => absurd hc (by decide), fun _ => ?_⟩
                      intro K_73 hK_128
                      refine ⟨fun c_77 => ?_, fun c_77 => ?_⟩
                      · skip
                        have f_129 : 0 ≤ (gI z_57 37).toInt ∧ (gI z_57 37).toInt ≤ 300 := tz_57.1 37
                        have i_130 := i_le (show (7 : Int32).toInt = 7 by decide) (a_sub rfl rfl (by omega) (by omega)) c_77
                        refine hK_128 ((-1 : Int64)) ?_
                        intro z_131 ez_131
                        have tz_131 : TM z_131 := by rw [ez_131]; exact Ty_wJ tz_57
                        have oz_131 : Same [37, 38, 39] [] z z_131 := ocz_57.j ez_131
                        intro z_132 ez_132
                        have f_133 : 0 ≤ (gI z_131 38).toInt ∧ (gI z_131 38).toInt ≤ 300 := tz_131.1 38
                        have q_134 := (show (gI z_131 38).toInt = (gI z_57 38).toInt by rw [ez_131]; rfl)
                        have tz_132 : TM z_132 := by rw [ez_132]; exact Ty_wI tz_131 (show 0 ≤ ((gI z_131 38) + (1 : Int32)).toInt ∧ ((gI z_131 38) + (1 : Int32)).toInt ≤ 300 from by rw [(a_add rfl (show (1 : Int32).toInt = 1 by decide) (by omega) (by omega))]; omega)
                        have oz_132 : Same [37, 38, 39] [] z z_132 := oz_131.i (by decide) ez_132
                        have f_135 : 0 ≤ (gI z_132 38).toInt ∧ (gI z_132 38).toInt ≤ 300 := tz_132.1 38
                        have q_136 := (show (gI z_132 38).toInt = ((gI z_131 38) + (1 : Int32)).toInt by rw [ez_132]; rfl)
                        have q_137 : ((gI z_131 38) + (1 : Int32)).toInt = ((gI z_131 38).toInt + (1)) := (a_add rfl (show (1 : Int32).toInt = 1 by decide) (by omega) (by omega))
                        exact ih_84  z_132 tz_132 oz_132 (by omega) (by omega)
                      · skip
                        have f_138 : 0 ≤ (gI z_57 37).toInt ∧ (gI z_57 37).toInt ≤ 300 := tz_57.1 37
                        have i_139 := i_nle (show (7 : Int32).toInt = 7 by decide) (a_sub rfl rfl (by omega) (by omega)) c_77
                        refine ⟨vin rfl (by omega) (by omega), ?_⟩
                        refine hK_128 (((((gJ z_57 40) * (32 : Int64)) + (Int32.toInt64 (gF z_57 25 (gI z_57 38).toNatClampNeg))) - (96 : Int64))) ?_
                        intro z_140 ez_140
                        have tz_140 : TM z_140 := by rw [ez_140]; exact Ty_wJ tz_57
                        have oz_140 : Same [37, 38, 39] [] z z_140 := ocz_57.j ez_140
                        intro z_141 ez_141
                        have f_142 : 0 ≤ (gI z_140 38).toInt ∧ (gI z_140 38).toInt ≤ 300 := tz_140.1 38
                        have q_143 := (show (gI z_140 38).toInt = (gI z_57 38).toInt by rw [ez_140]; rfl)
                        have tz_141 : TM z_141 := by rw [ez_141]; exact Ty_wI tz_140 (show 0 ≤ ((gI z_140 38) + (1 : Int32)).toInt ∧ ((gI z_140 38) + (1 : Int32)).toInt ≤ 300 from by rw [(a_add rfl (show (1 : Int32).toInt = 1 by decide) (by omega) (by omega))]; omega)
                        have oz_141 : Same [37, 38, 39] [] z z_141 := oz_140.i (by decide) ez_141
                        have f_144 : 0 ≤ (gI z_141 38).toInt ∧ (gI z_141 38).toInt ≤ 300 := tz_141.1 38
                        have q_145 := (show (gI z_141 38).toInt = ((gI z_140 38) + (1 : Int32)).toInt by rw [ez_141]; rfl)
                        have q_146 : ((gI z_140 38) + (1 : Int32)).toInt = ((gI z_140 38).toInt + (1)) := (a_add rfl (show (1 : Int32).toInt = 1 by decide) (by omega) (by omega))
                        exact ih_84  z_141 tz_141 oz_141 (by omega) (by omega)
                    · subst er_71
                      refine ⟨fun _ => ?_, fun hc => absurd (show ((0 : Int32)) = ((0 : Int32)) by decide) hc⟩
                      exact L_88 (((gI z 36).toInt - (gI z_57 38).toInt).toNat + 1)  z_57 tz_57 ocz_57 (by omega) (by omega)
            refine ⟨fun c_78 => ?_, fun c_78 => ?_⟩
            · skip
              have q_147 := (show (gI z_55 39).toInt = (1 : Int32).toInt by rw [ez_55]; rfl)
              have q_148 : (1 : Int32).toInt = (1) := (show (1 : Int32).toInt = 1 by decide)
              have i_149 := i_ne rfl (show (3 : Int32).toInt = 3 by decide) c_78
              have f_150 : 0 ≤ (gI z_55 38).toInt ∧ (gI z_55 38).toInt ≤ 300 := tz_55.1 38
              have q_151 := (((show (gI z_55 38).toInt = (gI z_13 38).toInt by rw [ez_55]; rfl)).trans (show (gI z_13 38).toInt = (gI z_12 38).toInt by rw [ez_13]; rfl)).trans (show (gI z_12 38).toInt = (gI z2 37).toInt by rw [ez_12]; rfl)
              exact L_82 (((gI z 36).toInt - (gI z_55 38).toInt).toNat + 1)  z_55 tz_55 oz_55 (by omega) (by omega)
            · skip
              have q_152 := (show (gI z_55 39).toInt = (1 : Int32).toInt by rw [ez_55]; rfl)
              have q_153 : (1 : Int32).toInt = (1) := (show (1 : Int32).toInt = 1 by decide)
              have i_154 := i_eq rfl (show (3 : Int32).toInt = 3 by decide) c_78
              have f_155 : 0 ≤ (gI z_55 37).toInt ∧ (gI z_55 37).toInt ≤ 300 := tz_55.1 37
              have q_156 := (((show (gI z_55 37).toInt = (gI z_13 37).toInt by rw [ez_55]; rfl)).trans (show (gI z_13 37).toInt = (gI z_12 37).toInt by rw [ez_13]; rfl)).trans (show (gI z_12 37).toInt = (gI z2 37).toInt by rw [ez_12]; rfl)
              refine ⟨vin rfl (by omega) (by omega), ?_⟩
              intro z_79 ez_79
              have tz_79 : TM z_79 := by rw [ez_79]; exact Ty_wJ tz_55
              have oz_79 : Same [37, 38, 39] [] z z_79 := oz_55.j ez_79
              intro z_80 ez_80
              have f_157 : 0 ≤ (gI z_79 38).toInt ∧ (gI z_79 38).toInt ≤ 300 := tz_79.1 38
              have q_158 := ((((show (gI z_79 38).toInt = (gI z_55 38).toInt by rw [ez_79]; rfl)).trans (show (gI z_55 38).toInt = (gI z_13 38).toInt by rw [ez_55]; rfl)).trans (show (gI z_13 38).toInt = (gI z_12 38).toInt by rw [ez_13]; rfl)).trans (show (gI z_12 38).toInt = (gI z2 37).toInt by rw [ez_12]; rfl)
              have tz_80 : TM z_80 := by rw [ez_80]; exact Ty_wI tz_79 (show 0 ≤ ((gI z_79 38) + (1 : Int32)).toInt ∧ ((gI z_79 38) + (1 : Int32)).toInt ≤ 300 from by rw [(a_add rfl (show (1 : Int32).toInt = 1 by decide) (by omega) (by omega))]; omega)
              have oz_80 : Same [37, 38, 39] [] z z_80 := oz_79.i (by decide) ez_80
              have f_159 : 0 ≤ (gI z_80 38).toInt ∧ (gI z_80 38).toInt ≤ 300 := tz_80.1 38
              have q_160 := (show (gI z_80 38).toInt = ((gI z_79 38) + (1 : Int32)).toInt by rw [ez_80]; rfl)
              have q_161 : ((gI z_79 38) + (1 : Int32)).toInt = ((gI z_79 38).toInt + (1)) := (a_add rfl (show (1 : Int32).toInt = 1 by decide) (by omega) (by omega))
              exact L_82 (((gI z 36).toInt - (gI z_80 38).toInt).toNat + 1)  z_80 tz_80 oz_80 (by omega) (by omega)
          · subst er_43
            refine ⟨fun _ => ?_, fun hc => absurd (show ((0 : Int32)) = ((0 : Int32)) by decide) hc⟩
            refine ⟨vin rfl (by omega) (by omega), ?_⟩
            refine s_X9_isDigit (gF z_13 25 (gI z_13 37).toNatClampNeg) z_13 _ tz_13  (fun r_45 hp_162 => ?_)
            rcases hp_162 with ⟨er_45, hp_162⟩ | ⟨er_45, hp_162⟩
            · subst er_45
              refine ⟨fun hc => absurd hc (by decide), fun _ => ?_⟩
              refine hK_47 ((2 : Int32)) ?_
              intro z_163 ez_163
              have tz_163 : TM z_163 := by rw [ez_163]; exact Ty_wI tz_13 trivial
              have oz_163 : Same [37, 38, 39] [] z z_163 := oz_13.i (by decide) ez_163
              intro K_164 hK_189
              have L_190 : ∀ (n : Nat)  (z_165 : St), TM z_165 → Same [37, 38, 39] [] z z_165 → ((gI z_165 38).toInt ≤ (gI z 36).toInt) → ((gI z 36).toInt - (gI z_165 38).toInt).toNat < n → K_164 z_165 := by
                intro n
                induction n with
                | zero => intro z_165 tz_165 ocz_165 w_191 m_193; omega
                | succ n ih_192 =>
                  intro z_165 tz_165 ocz_165 w_191 m_193
                  have f_194 : 0 ≤ (gI z_165 38).toInt ∧ (gI z_165 38).toInt ≤ 300 := tz_165.1 38
                  refine hK_189 z_165 ?_
                  intro K_166 hK_195
                  have L_196 : ∀ (n : Nat)  (z_167 : St), TM z_167 → Same [37, 38, 39] [] z z_167 → ((gI z_167 38).toInt ≤ (gI z 36).toInt) → ((gI z 36).toInt - (gI z_167 38).toInt).toNat < n → K_166 z_167 := by
                    intro n
                    induction n with
                    | zero => intro z_167 tz_167 ocz_167 w_197 m_199; omega
                    | succ n ih_198 =>
                      intro z_167 tz_167 ocz_167 w_197 m_199
                      have f_200 : 0 ≤ (gI z_167 38).toInt ∧ (gI z_167 38).toInt ≤ 300 := tz_167.1 38
                      refine hK_195 z_167 ?_
                      refine ⟨fun c_168 => ?_, fun c_168 => ?_⟩
                      · skip
                        have i_201 := i_ne rfl (show (2 : Int32).toInt = 2 by decide) c_168
                        exact hk z_167 tz_167 ocz_167 (by omega)
                      · skip
                        have i_202 := i_eq rfl (show (2 : Int32).toInt = 2 by decide) c_168
                        refine ⟨fun c_169 => ?_, fun c_169 => ?_⟩
                        · skip
                          have f_203 : 0 ≤ (gI z_167 36).toInt ∧ (gI z_167 36).toInt ≤ 300 := tz_167.1 36
                          have q_204 := (ocz_167.fi 36 (by decide))
                          have i_205 := i_le rfl rfl c_169
                          exact hk z_167 tz_167 ocz_167 (by omega)
                        · skip
                          have f_206 : 0 ≤ (gI z_167 36).toInt ∧ (gI z_167 36).toInt ≤ 300 := tz_167.1 36
                          have q_207 := (ocz_167.fi 36 (by decide))
                          have i_208 := i_nle rfl rfl c_169
                          refine ⟨vin rfl (by omega) (by omega), ?_⟩
                          have q_209 := (ocz_167.ff 25 (gI z_167 38).toNatClampNeg (by decide))
                          refine s_X9_isDigit (gF z_167 25 (gI z_167 38).toNatClampNeg) z_167 _ tz_167  (fun r_170 hp_210 => ?_)
                          rcases hp_210 with ⟨er_170, hp_210⟩ | ⟨er_170, hp_210⟩
                          · subst er_170
                            refine ⟨fun hc => absurd hc (by decide), fun _ => ?_⟩
                            intro K_172 hK_211
                            refine ⟨fun c_176 => ?_, fun c_176 => ?_⟩
                            · skip
                              refine ⟨vin rfl (by omega) (by omega), ?_⟩
                              refine hK_211 (((((gJ z_167 40) * (10 : Int64)) + (Int32.toInt64 (gF z_167 25 (gI z_167 38).toNatClampNeg))) - (48 : Int64))) ?_
                              intro z_212 ez_212
                              have tz_212 : TM z_212 := by rw [ez_212]; exact Ty_wJ tz_167
                              have oz_212 : Same [37, 38, 39] [] z z_212 := ocz_167.j ez_212
                              intro z_213 ez_213
                              have f_214 : 0 ≤ (gI z_212 38).toInt ∧ (gI z_212 38).toInt ≤ 300 := tz_212.1 38
                              have q_215 := (show (gI z_212 38).toInt = (gI z_167 38).toInt by rw [ez_212]; rfl)
                              have tz_213 : TM z_213 := by rw [ez_213]; exact Ty_wI tz_212 (show 0 ≤ ((gI z_212 38) + (1 : Int32)).toInt ∧ ((gI z_212 38) + (1 : Int32)).toInt ≤ 300 from by rw [(a_add rfl (show (1 : Int32).toInt = 1 by decide) (by omega) (by omega))]; omega)
                              have oz_213 : Same [37, 38, 39] [] z z_213 := oz_212.i (by decide) ez_213
                              have f_216 : 0 ≤ (gI z_213 38).toInt ∧ (gI z_213 38).toInt ≤ 300 := tz_213.1 38
                              have q_217 := (show (gI z_213 38).toInt = ((gI z_212 38) + (1 : Int32)).toInt by rw [ez_213]; rfl)
                              have q_218 : ((gI z_212 38) + (1 : Int32)).toInt = ((gI z_212 38).toInt + (1)) := (a_add rfl (show (1 : Int32).toInt = 1 by decide) (by omega) (by omega))
                              exact ih_198  z_213 tz_213 oz_213 (by omega) (by omega)
                            · skip
                              refine hK_211 ((gJ z_167 40)) ?_
                              intro z_219 ez_219
                              have tz_219 : TM z_219 := by rw [ez_219]; exact Ty_wJ tz_167
                              have oz_219 : Same [37, 38, 39] [] z z_219 := ocz_167.j ez_219
                              intro z_220 ez_220
                              have f_221 : 0 ≤ (gI z_219 38).toInt ∧ (gI z_219 38).toInt ≤ 300 := tz_219.1 38
                              have q_222 := (show (gI z_219 38).toInt = (gI z_167 38).toInt by rw [ez_219]; rfl)
                              have tz_220 : TM z_220 := by rw [ez_220]; exact Ty_wI tz_219 (show 0 ≤ ((gI z_219 38) + (1 : Int32)).toInt ∧ ((gI z_219 38) + (1 : Int32)).toInt ≤ 300 from by rw [(a_add rfl (show (1 : Int32).toInt = 1 by decide) (by omega) (by omega))]; omega)
                              have oz_220 : Same [37, 38, 39] [] z z_220 := oz_219.i (by decide) ez_220
                              have f_223 : 0 ≤ (gI z_220 38).toInt ∧ (gI z_220 38).toInt ≤ 300 := tz_220.1 38
                              have q_224 := (show (gI z_220 38).toInt = ((gI z_219 38) + (1 : Int32)).toInt by rw [ez_220]; rfl)
                              have q_225 : ((gI z_219 38) + (1 : Int32)).toInt = ((gI z_219 38).toInt + (1)) := (a_add rfl (show (1 : Int32).toInt = 1 by decide) (by omega) (by omega))
                              exact ih_198  z_220 tz_220 oz_220 (by omega) (by omega)
                          · subst er_170
                            refine ⟨fun _ => ?_, fun hc => absurd (show ((0 : Int32)) = ((0 : Int32)) by decide) hc⟩
                            exact hk z_167 tz_167 ocz_167 (by omega)
                  refine ⟨fun c_177 => ?_, fun c_177 => ?_⟩
                  · skip
                    have i_226 := i_ne rfl (show (1 : Int32).toInt = 1 by decide) c_177
                    exact L_196 (((gI z 36).toInt - (gI z_165 38).toInt).toNat + 1)  z_165 tz_165 ocz_165 (by omega) (by omega)
                  · skip
                    have i_227 := i_eq rfl (show (1 : Int32).toInt = 1 by decide) c_177
                    refine ⟨fun c_178 => ?_, fun c_178 => ?_⟩
                    · skip
                      have f_228 : 0 ≤ (gI z_165 36).toInt ∧ (gI z_165 36).toInt ≤ 300 := tz_165.1 36
                      have q_229 := (ocz_165.fi 36 (by decide))
                      have i_230 := i_le rfl rfl c_178
                      exact L_196 (((gI z 36).toInt - (gI z_165 38).toInt).toNat + 1)  z_165 tz_165 ocz_165 (by omega) (by omega)
                    · skip
                      have f_231 : 0 ≤ (gI z_165 36).toInt ∧ (gI z_165 36).toInt ≤ 300 := tz_165.1 36
                      have q_232 := (ocz_165.fi 36 (by decide))
                      have i_233 := i_nle rfl rfl c_178
                      refine ⟨vin rfl (by omega) (by omega), ?_⟩
                      have q_234 := (ocz_165.ff 25 (gI z_165 38).toNatClampNeg (by decide))
                      refine s_X9_isSmall (gF z_165 25 (gI z_165 38).toNatClampNeg) z_165 _ tz_165  (fun r_179 hp_235 => ?_)
                      rcases hp_235 with ⟨er_179, hp_235⟩ | ⟨er_179, hp_235⟩
                      · subst er_179
                        refine ⟨fun hc => absurd hc (by decide), fun _ => ?_⟩
                        intro K_181 hK_236
                        refine ⟨fun c_185 => ?_, fun c_185 => ?_⟩
                        · skip
                          have f_237 : 0 ≤ (gI z_165 37).toInt ∧ (gI z_165 37).toInt ≤ 300 := tz_165.1 37
                          have i_238 := i_le (show (7 : Int32).toInt = 7 by decide) (a_sub rfl rfl (by omega) (by omega)) c_185
                          refine hK_236 ((-1 : Int64)) ?_
                          intro z_239 ez_239
                          have tz_239 : TM z_239 := by rw [ez_239]; exact Ty_wJ tz_165
                          have oz_239 : Same [37, 38, 39] [] z z_239 := ocz_165.j ez_239
                          intro z_240 ez_240
                          have f_241 : 0 ≤ (gI z_239 38).toInt ∧ (gI z_239 38).toInt ≤ 300 := tz_239.1 38
                          have q_242 := (show (gI z_239 38).toInt = (gI z_165 38).toInt by rw [ez_239]; rfl)
                          have tz_240 : TM z_240 := by rw [ez_240]; exact Ty_wI tz_239 (show 0 ≤ ((gI z_239 38) + (1 : Int32)).toInt ∧ ((gI z_239 38) + (1 : Int32)).toInt ≤ 300 from by rw [(a_add rfl (show (1 : Int32).toInt = 1 by decide) (by omega) (by omega))]; omega)
                          have oz_240 : Same [37, 38, 39] [] z z_240 := oz_239.i (by decide) ez_240
                          have f_243 : 0 ≤ (gI z_240 38).toInt ∧ (gI z_240 38).toInt ≤ 300 := tz_240.1 38
                          have q_244 := (show (gI z_240 38).toInt = ((gI z_239 38) + (1 : Int32)).toInt by rw [ez_240]; rfl)
                          have q_245 : ((gI z_239 38) + (1 : Int32)).toInt = ((gI z_239 38).toInt + (1)) := (a_add rfl (show (1 : Int32).toInt = 1 by decide) (by omega) (by omega))
                          exact ih_192  z_240 tz_240 oz_240 (by omega) (by omega)
                        · skip
                          have f_246 : 0 ≤ (gI z_165 37).toInt ∧ (gI z_165 37).toInt ≤ 300 := tz_165.1 37
                          have i_247 := i_nle (show (7 : Int32).toInt = 7 by decide) (a_sub rfl rfl (by omega) (by omega)) c_185
                          refine ⟨vin rfl (by omega) (by omega), ?_⟩
                          refine hK_236 (((((gJ z_165 40) * (32 : Int64)) + (Int32.toInt64 (gF z_165 25 (gI z_165 38).toNatClampNeg))) - (96 : Int64))) ?_
                          intro z_248 ez_248
                          have tz_248 : TM z_248 := by rw [ez_248]; exact Ty_wJ tz_165
                          have oz_248 : Same [37, 38, 39] [] z z_248 := ocz_165.j ez_248
                          intro z_249 ez_249
                          have f_250 : 0 ≤ (gI z_248 38).toInt ∧ (gI z_248 38).toInt ≤ 300 := tz_248.1 38
                          have q_251 := (show (gI z_248 38).toInt = (gI z_165 38).toInt by rw [ez_248]; rfl)
                          have tz_249 : TM z_249 := by rw [ez_249]; exact Ty_wI tz_248 (show 0 ≤ ((gI z_248 38) + (1 : Int32)).toInt ∧ ((gI z_248 38) + (1 : Int32)).toInt ≤ 300 from by rw [(a_add rfl (show (1 : Int32).toInt = 1 by decide) (by omega) (by omega))]; omega)
                          have oz_249 : Same [37, 38, 39] [] z z_249 := oz_248.i (by decide) ez_249
                          have f_252 : 0 ≤ (gI z_249 38).toInt ∧ (gI z_249 38).toInt ≤ 300 := tz_249.1 38
                          have q_253 := (show (gI z_249 38).toInt = ((gI z_248 38) + (1 : Int32)).toInt by rw [ez_249]; rfl)
                          have q_254 : ((gI z_248 38) + (1 : Int32)).toInt = ((gI z_248 38).toInt + (1)) := (a_add rfl (show (1 : Int32).toInt = 1 by decide) (by omega) (by omega))
                          exact ih_192  z_249 tz_249 oz_249 (by omega) (by omega)
                      · subst er_179
                        refine ⟨fun _ => ?_, fun hc => absurd (show ((0 : Int32)) = ((0 : Int32)) by decide) hc⟩
                        exact L_196 (((gI z 36).toInt - (gI z_165 38).toInt).toNat + 1)  z_165 tz_165 ocz_165 (by omega) (by omega)
              refine ⟨fun c_186 => ?_, fun c_186 => ?_⟩
              · skip
                have q_255 := (show (gI z_163 39).toInt = (2 : Int32).toInt by rw [ez_163]; rfl)
                have q_256 : (2 : Int32).toInt = (2) := (show (2 : Int32).toInt = 2 by decide)
                have i_257 := i_ne rfl (show (3 : Int32).toInt = 3 by decide) c_186
                have f_258 : 0 ≤ (gI z_163 38).toInt ∧ (gI z_163 38).toInt ≤ 300 := tz_163.1 38
                have q_259 := (((show (gI z_163 38).toInt = (gI z_13 38).toInt by rw [ez_163]; rfl)).trans (show (gI z_13 38).toInt = (gI z_12 38).toInt by rw [ez_13]; rfl)).trans (show (gI z_12 38).toInt = (gI z2 37).toInt by rw [ez_12]; rfl)
                exact L_190 (((gI z 36).toInt - (gI z_163 38).toInt).toNat + 1)  z_163 tz_163 oz_163 (by omega) (by omega)
              · skip
                have q_260 := (show (gI z_163 39).toInt = (2 : Int32).toInt by rw [ez_163]; rfl)
                have q_261 : (2 : Int32).toInt = (2) := (show (2 : Int32).toInt = 2 by decide)
                have i_262 := i_eq rfl (show (3 : Int32).toInt = 3 by decide) c_186
                have f_263 : 0 ≤ (gI z_163 37).toInt ∧ (gI z_163 37).toInt ≤ 300 := tz_163.1 37
                have q_264 := (((show (gI z_163 37).toInt = (gI z_13 37).toInt by rw [ez_163]; rfl)).trans (show (gI z_13 37).toInt = (gI z_12 37).toInt by rw [ez_13]; rfl)).trans (show (gI z_12 37).toInt = (gI z2 37).toInt by rw [ez_12]; rfl)
                refine ⟨vin rfl (by omega) (by omega), ?_⟩
                intro z_187 ez_187
                have tz_187 : TM z_187 := by rw [ez_187]; exact Ty_wJ tz_163
                have oz_187 : Same [37, 38, 39] [] z z_187 := oz_163.j ez_187
                intro z_188 ez_188
                have f_265 : 0 ≤ (gI z_187 38).toInt ∧ (gI z_187 38).toInt ≤ 300 := tz_187.1 38
                have q_266 := ((((show (gI z_187 38).toInt = (gI z_163 38).toInt by rw [ez_187]; rfl)).trans (show (gI z_163 38).toInt = (gI z_13 38).toInt by rw [ez_163]; rfl)).trans (show (gI z_13 38).toInt = (gI z_12 38).toInt by rw [ez_13]; rfl)).trans (show (gI z_12 38).toInt = (gI z2 37).toInt by rw [ez_12]; rfl)
                have tz_188 : TM z_188 := by rw [ez_188]; exact Ty_wI tz_187 (show 0 ≤ ((gI z_187 38) + (1 : Int32)).toInt ∧ ((gI z_187 38) + (1 : Int32)).toInt ≤ 300 from by rw [(a_add rfl (show (1 : Int32).toInt = 1 by decide) (by omega) (by omega))]; omega)
                have oz_188 : Same [37, 38, 39] [] z z_188 := oz_187.i (by decide) ez_188
                have f_267 : 0 ≤ (gI z_188 38).toInt ∧ (gI z_188 38).toInt ≤ 300 := tz_188.1 38
                have q_268 := (show (gI z_188 38).toInt = ((gI z_187 38) + (1 : Int32)).toInt by rw [ez_188]; rfl)
                have q_269 : ((gI z_187 38) + (1 : Int32)).toInt = ((gI z_187 38).toInt + (1)) := (a_add rfl (show (1 : Int32).toInt = 1 by decide) (by omega) (by omega))
                exact L_190 (((gI z 36).toInt - (gI z_188 38).toInt).toNat + 1)  z_188 tz_188 oz_188 (by omega) (by omega)
            · subst er_45
              refine ⟨fun _ => ?_, fun hc => absurd (show ((0 : Int32)) = ((0 : Int32)) by decide) hc⟩
              refine hK_47 ((3 : Int32)) ?_
              intro z_270 ez_270
              have tz_270 : TM z_270 := by rw [ez_270]; exact Ty_wI tz_13 trivial
              have oz_270 : Same [37, 38, 39] [] z z_270 := oz_13.i (by decide) ez_270
              intro K_271 hK_296
              have L_297 : ∀ (n : Nat)  (z_272 : St), TM z_272 → Same [37, 38, 39] [] z z_272 → ((gI z_272 38).toInt ≤ (gI z 36).toInt) → ((gI z 36).toInt - (gI z_272 38).toInt).toNat < n → K_271 z_272 := by
                intro n
                induction n with
                | zero => intro z_272 tz_272 ocz_272 w_298 m_300; omega
                | succ n ih_299 =>
                  intro z_272 tz_272 ocz_272 w_298 m_300
                  have f_301 : 0 ≤ (gI z_272 38).toInt ∧ (gI z_272 38).toInt ≤ 300 := tz_272.1 38
                  refine hK_296 z_272 ?_
                  intro K_273 hK_302
                  have L_303 : ∀ (n : Nat)  (z_274 : St), TM z_274 → Same [37, 38, 39] [] z z_274 → ((gI z_274 38).toInt ≤ (gI z 36).toInt) → ((gI z 36).toInt - (gI z_274 38).toInt).toNat < n → K_273 z_274 := by
                    intro n
                    induction n with
                    | zero => intro z_274 tz_274 ocz_274 w_304 m_306; omega
                    | succ n ih_305 =>
                      intro z_274 tz_274 ocz_274 w_304 m_306
                      have f_307 : 0 ≤ (gI z_274 38).toInt ∧ (gI z_274 38).toInt ≤ 300 := tz_274.1 38
                      refine hK_302 z_274 ?_
                      refine ⟨fun c_275 => ?_, fun c_275 => ?_⟩
                      · skip
                        have i_308 := i_ne rfl (show (2 : Int32).toInt = 2 by decide) c_275
                        exact hk z_274 tz_274 ocz_274 (by omega)
                      · skip
                        have i_309 := i_eq rfl (show (2 : Int32).toInt = 2 by decide) c_275
                        refine ⟨fun c_276 => ?_, fun c_276 => ?_⟩
                        · skip
                          have f_310 : 0 ≤ (gI z_274 36).toInt ∧ (gI z_274 36).toInt ≤ 300 := tz_274.1 36
                          have q_311 := (ocz_274.fi 36 (by decide))
                          have i_312 := i_le rfl rfl c_276
                          exact hk z_274 tz_274 ocz_274 (by omega)
                        · skip
                          have f_313 : 0 ≤ (gI z_274 36).toInt ∧ (gI z_274 36).toInt ≤ 300 := tz_274.1 36
                          have q_314 := (ocz_274.fi 36 (by decide))
                          have i_315 := i_nle rfl rfl c_276
                          refine ⟨vin rfl (by omega) (by omega), ?_⟩
                          have q_316 := (ocz_274.ff 25 (gI z_274 38).toNatClampNeg (by decide))
                          refine s_X9_isDigit (gF z_274 25 (gI z_274 38).toNatClampNeg) z_274 _ tz_274  (fun r_277 hp_317 => ?_)
                          rcases hp_317 with ⟨er_277, hp_317⟩ | ⟨er_277, hp_317⟩
                          · subst er_277
                            refine ⟨fun hc => absurd hc (by decide), fun _ => ?_⟩
                            intro K_279 hK_318
                            refine ⟨fun c_283 => ?_, fun c_283 => ?_⟩
                            · skip
                              refine ⟨vin rfl (by omega) (by omega), ?_⟩
                              refine hK_318 (((((gJ z_274 40) * (10 : Int64)) + (Int32.toInt64 (gF z_274 25 (gI z_274 38).toNatClampNeg))) - (48 : Int64))) ?_
                              intro z_319 ez_319
                              have tz_319 : TM z_319 := by rw [ez_319]; exact Ty_wJ tz_274
                              have oz_319 : Same [37, 38, 39] [] z z_319 := ocz_274.j ez_319
                              intro z_320 ez_320
                              have f_321 : 0 ≤ (gI z_319 38).toInt ∧ (gI z_319 38).toInt ≤ 300 := tz_319.1 38
                              have q_322 := (show (gI z_319 38).toInt = (gI z_274 38).toInt by rw [ez_319]; rfl)
                              have tz_320 : TM z_320 := by rw [ez_320]; exact Ty_wI tz_319 (show 0 ≤ ((gI z_319 38) + (1 : Int32)).toInt ∧ ((gI z_319 38) + (1 : Int32)).toInt ≤ 300 from by rw [(a_add rfl (show (1 : Int32).toInt = 1 by decide) (by omega) (by omega))]; omega)
                              have oz_320 : Same [37, 38, 39] [] z z_320 := oz_319.i (by decide) ez_320
                              have f_323 : 0 ≤ (gI z_320 38).toInt ∧ (gI z_320 38).toInt ≤ 300 := tz_320.1 38
                              have q_324 := (show (gI z_320 38).toInt = ((gI z_319 38) + (1 : Int32)).toInt by rw [ez_320]; rfl)
                              have q_325 : ((gI z_319 38) + (1 : Int32)).toInt = ((gI z_319 38).toInt + (1)) := (a_add rfl (show (1 : Int32).toInt = 1 by decide) (by omega) (by omega))
                              exact ih_305  z_320 tz_320 oz_320 (by omega) (by omega)
                            · skip
                              refine hK_318 ((gJ z_274 40)) ?_
                              intro z_326 ez_326
                              have tz_326 : TM z_326 := by rw [ez_326]; exact Ty_wJ tz_274
                              have oz_326 : Same [37, 38, 39] [] z z_326 := ocz_274.j ez_326
                              intro z_327 ez_327
                              have f_328 : 0 ≤ (gI z_326 38).toInt ∧ (gI z_326 38).toInt ≤ 300 := tz_326.1 38
                              have q_329 := (show (gI z_326 38).toInt = (gI z_274 38).toInt by rw [ez_326]; rfl)
                              have tz_327 : TM z_327 := by rw [ez_327]; exact Ty_wI tz_326 (show 0 ≤ ((gI z_326 38) + (1 : Int32)).toInt ∧ ((gI z_326 38) + (1 : Int32)).toInt ≤ 300 from by rw [(a_add rfl (show (1 : Int32).toInt = 1 by decide) (by omega) (by omega))]; omega)
                              have oz_327 : Same [37, 38, 39] [] z z_327 := oz_326.i (by decide) ez_327
                              have f_330 : 0 ≤ (gI z_327 38).toInt ∧ (gI z_327 38).toInt ≤ 300 := tz_327.1 38
                              have q_331 := (show (gI z_327 38).toInt = ((gI z_326 38) + (1 : Int32)).toInt by rw [ez_327]; rfl)
                              have q_332 : ((gI z_326 38) + (1 : Int32)).toInt = ((gI z_326 38).toInt + (1)) := (a_add rfl (show (1 : Int32).toInt = 1 by decide) (by omega) (by omega))
                              exact ih_305  z_327 tz_327 oz_327 (by omega) (by omega)
                          · subst er_277
                            refine ⟨fun _ => ?_, fun hc => absurd (show ((0 : Int32)) = ((0 : Int32)) by decide) hc⟩
                            exact hk z_274 tz_274 ocz_274 (by omega)
                  refine ⟨fun c_284 => ?_, fun c_284 => ?_⟩
                  · skip
                    have i_333 := i_ne rfl (show (1 : Int32).toInt = 1 by decide) c_284
                    exact L_303 (((gI z 36).toInt - (gI z_272 38).toInt).toNat + 1)  z_272 tz_272 ocz_272 (by omega) (by omega)
                  · skip
                    have i_334 := i_eq rfl (show (1 : Int32).toInt = 1 by decide) c_284
                    refine ⟨fun c_285 => ?_, fun c_285 => ?_⟩
                    · skip
                      have f_335 : 0 ≤ (gI z_272 36).toInt ∧ (gI z_272 36).toInt ≤ 300 := tz_272.1 36
                      have q_336 := (ocz_272.fi 36 (by decide))
                      have i_337 := i_le rfl rfl c_285
                      exact L_303 (((gI z 36).toInt - (gI z_272 38).toInt).toNat + 1)  z_272 tz_272 ocz_272 (by omega) (by omega)
                    · skip
                      have f_338 : 0 ≤ (gI z_272 36).toInt ∧ (gI z_272 36).toInt ≤ 300 := tz_272.1 36
                      have q_339 := (ocz_272.fi 36 (by decide))
                      have i_340 := i_nle rfl rfl c_285
                      refine ⟨vin rfl (by omega) (by omega), ?_⟩
                      have q_341 := (ocz_272.ff 25 (gI z_272 38).toNatClampNeg (by decide))
                      refine s_X9_isSmall (gF z_272 25 (gI z_272 38).toNatClampNeg) z_272 _ tz_272  (fun r_286 hp_342 => ?_)
                      rcases hp_342 with ⟨er_286, hp_342⟩ | ⟨er_286, hp_342⟩
                      · subst er_286
                        refine ⟨fun hc => absurd hc (by decide), fun _ => ?_⟩
                        intro K_288 hK_343
                        refine ⟨fun c_292 => ?_, fun c_292 => ?_⟩
                        · skip
                          have f_344 : 0 ≤ (gI z_272 37).toInt ∧ (gI z_272 37).toInt ≤ 300 := tz_272.1 37
                          have i_345 := i_le (show (7 : Int32).toInt = 7 by decide) (a_sub rfl rfl (by omega) (by omega)) c_292
                          refine hK_343 ((-1 : Int64)) ?_
                          intro z_346 ez_346
                          have tz_346 : TM z_346 := by rw [ez_346]; exact Ty_wJ tz_272
                          have oz_346 : Same [37, 38, 39] [] z z_346 := ocz_272.j ez_346
                          intro z_347 ez_347
                          have f_348 : 0 ≤ (gI z_346 38).toInt ∧ (gI z_346 38).toInt ≤ 300 := tz_346.1 38
                          have q_349 := (show (gI z_346 38).toInt = (gI z_272 38).toInt by rw [ez_346]; rfl)
                          have tz_347 : TM z_347 := by rw [ez_347]; exact Ty_wI tz_346 (show 0 ≤ ((gI z_346 38) + (1 : Int32)).toInt ∧ ((gI z_346 38) + (1 : Int32)).toInt ≤ 300 from by rw [(a_add rfl (show (1 : Int32).toInt = 1 by decide) (by omega) (by omega))]; omega)
                          have oz_347 : Same [37, 38, 39] [] z z_347 := oz_346.i (by decide) ez_347
                          have f_350 : 0 ≤ (gI z_347 38).toInt ∧ (gI z_347 38).toInt ≤ 300 := tz_347.1 38
                          have q_351 := (show (gI z_347 38).toInt = ((gI z_346 38) + (1 : Int32)).toInt by rw [ez_347]; rfl)
                          have q_352 : ((gI z_346 38) + (1 : Int32)).toInt = ((gI z_346 38).toInt + (1)) := (a_add rfl (show (1 : Int32).toInt = 1 by decide) (by omega) (by omega))
                          exact ih_299  z_347 tz_347 oz_347 (by omega) (by omega)
                        · skip
                          have f_353 : 0 ≤ (gI z_272 37).toInt ∧ (gI z_272 37).toInt ≤ 300 := tz_272.1 37
                          have i_354 := i_nle (show (7 : Int32).toInt = 7 by decide) (a_sub rfl rfl (by omega) (by omega)) c_292
                          refine ⟨vin rfl (by omega) (by omega), ?_⟩
                          refine hK_343 (((((gJ z_272 40) * (32 : Int64)) + (Int32.toInt64 (gF z_272 25 (gI z_272 38).toNatClampNeg))) - (96 : Int64))) ?_
                          intro z_355 ez_355
                          have tz_355 : TM z_355 := by rw [ez_355]; exact Ty_wJ tz_272
                          have oz_355 : Same [37, 38, 39] [] z z_355 := ocz_272.j ez_355
                          intro z_356 ez_356
                          have f_357 : 0 ≤ (gI z_355 38).toInt ∧ (gI z_355 38).toInt ≤ 300 := tz_355.1 38
                          have q_358 := (show (gI z_355 38).toInt = (gI z_272 38).toInt by rw [ez_355]; rfl)
                          have tz_356 : TM z_356 := by rw [ez_356]; exact Ty_wI tz_355 (show 0 ≤ ((gI z_355 38) + (1 : Int32)).toInt ∧ ((gI z_355 38) + (1 : Int32)).toInt ≤ 300 from by rw [(a_add rfl (show (1 : Int32).toInt = 1 by decide) (by omega) (by omega))]; omega)
                          have oz_356 : Same [37, 38, 39] [] z z_356 := oz_355.i (by decide) ez_356
                          have f_359 : 0 ≤ (gI z_356 38).toInt ∧ (gI z_356 38).toInt ≤ 300 := tz_356.1 38
                          have q_360 := (show (gI z_356 38).toInt = ((gI z_355 38) + (1 : Int32)).toInt by rw [ez_356]; rfl)
                          have q_361 : ((gI z_355 38) + (1 : Int32)).toInt = ((gI z_355 38).toInt + (1)) := (a_add rfl (show (1 : Int32).toInt = 1 by decide) (by omega) (by omega))
                          exact ih_299  z_356 tz_356 oz_356 (by omega) (by omega)
                      · subst er_286
                        refine ⟨fun _ => ?_, fun hc => absurd (show ((0 : Int32)) = ((0 : Int32)) by decide) hc⟩
                        exact L_303 (((gI z 36).toInt - (gI z_272 38).toInt).toNat + 1)  z_272 tz_272 ocz_272 (by omega) (by omega)
              refine ⟨fun c_293 => ?_, fun c_293 => ?_⟩
              · skip
                have q_362 := (show (gI z_270 39).toInt = (3 : Int32).toInt by rw [ez_270]; rfl)
                have q_363 : (3 : Int32).toInt = (3) := (show (3 : Int32).toInt = 3 by decide)
                have i_364 := i_ne rfl (show (3 : Int32).toInt = 3 by decide) c_293
                have f_365 : 0 ≤ (gI z_270 38).toInt ∧ (gI z_270 38).toInt ≤ 300 := tz_270.1 38
                have q_366 := (((show (gI z_270 38).toInt = (gI z_13 38).toInt by rw [ez_270]; rfl)).trans (show (gI z_13 38).toInt = (gI z_12 38).toInt by rw [ez_13]; rfl)).trans (show (gI z_12 38).toInt = (gI z2 37).toInt by rw [ez_12]; rfl)
                exact L_297 (((gI z 36).toInt - (gI z_270 38).toInt).toNat + 1)  z_270 tz_270 oz_270 (by omega) (by omega)
              · skip
                have q_367 := (show (gI z_270 39).toInt = (3 : Int32).toInt by rw [ez_270]; rfl)
                have q_368 : (3 : Int32).toInt = (3) := (show (3 : Int32).toInt = 3 by decide)
                have i_369 := i_eq rfl (show (3 : Int32).toInt = 3 by decide) c_293
                have f_370 : 0 ≤ (gI z_270 37).toInt ∧ (gI z_270 37).toInt ≤ 300 := tz_270.1 37
                have q_371 := (((show (gI z_270 37).toInt = (gI z_13 37).toInt by rw [ez_270]; rfl)).trans (show (gI z_13 37).toInt = (gI z_12 37).toInt by rw [ez_13]; rfl)).trans (show (gI z_12 37).toInt = (gI z2 37).toInt by rw [ez_12]; rfl)
                refine ⟨vin rfl (by omega) (by omega), ?_⟩
                intro z_294 ez_294
                have tz_294 : TM z_294 := by rw [ez_294]; exact Ty_wJ tz_270
                have oz_294 : Same [37, 38, 39] [] z z_294 := oz_270.j ez_294
                intro z_295 ez_295
                have f_372 : 0 ≤ (gI z_294 38).toInt ∧ (gI z_294 38).toInt ≤ 300 := tz_294.1 38
                have q_373 := ((((show (gI z_294 38).toInt = (gI z_270 38).toInt by rw [ez_294]; rfl)).trans (show (gI z_270 38).toInt = (gI z_13 38).toInt by rw [ez_270]; rfl)).trans (show (gI z_13 38).toInt = (gI z_12 38).toInt by rw [ez_13]; rfl)).trans (show (gI z_12 38).toInt = (gI z2 37).toInt by rw [ez_12]; rfl)
                have tz_295 : TM z_295 := by rw [ez_295]; exact Ty_wI tz_294 (show 0 ≤ ((gI z_294 38) + (1 : Int32)).toInt ∧ ((gI z_294 38) + (1 : Int32)).toInt ≤ 300 from by rw [(a_add rfl (show (1 : Int32).toInt = 1 by decide) (by omega) (by omega))]; omega)
                have oz_295 : Same [37, 38, 39] [] z z_295 := oz_294.i (by decide) ez_295
                have f_374 : 0 ≤ (gI z_295 38).toInt ∧ (gI z_295 38).toInt ≤ 300 := tz_295.1 38
                have q_375 := (show (gI z_295 38).toInt = ((gI z_294 38) + (1 : Int32)).toInt by rw [ez_295]; rfl)
                have q_376 : ((gI z_294 38) + (1 : Int32)).toInt = ((gI z_294 38).toInt + (1)) := (a_add rfl (show (1 : Int32).toInt = 1 by decide) (by omega) (by omega))
                exact L_297 (((gI z 36).toInt - (gI z_295 38).toInt).toNat + 1)  z_295 tz_295 oz_295 (by omega) (by omega)
        · skip
          have f_377 : 0 ≤ (gI z_13 37).toInt ∧ (gI z_13 37).toInt ≤ 300 := tz_13.1 37
          have q_378 := ((show (gI z_13 37).toInt = (gI z_12 37).toInt by rw [ez_13]; rfl)).trans (show (gI z_12 37).toInt = (gI z2 37).toInt by rw [ez_12]; rfl)
          have f_379 : 0 ≤ (gI z_13 36).toInt ∧ (gI z_13 36).toInt ≤ 300 := tz_13.1 36
          have q_380 := (((show (gI z_13 36).toInt = (gI z_12 36).toInt by rw [ez_13]; rfl)).trans (show (gI z_12 36).toInt = (gI z2 36).toInt by rw [ez_12]; rfl)).trans (ocz2.fi 36 (by decide))
          have i_381 := i_eq rfl rfl c_42
          refine hK_47 ((0 : Int32)) ?_
          intro z_382 ez_382
          have tz_382 : TM z_382 := by rw [ez_382]; exact Ty_wI tz_13 trivial
          have oz_382 : Same [37, 38, 39] [] z z_382 := oz_13.i (by decide) ez_382
          intro K_383 hK_408
          have L_409 : ∀ (n : Nat)  (z_384 : St), TM z_384 → Same [37, 38, 39] [] z z_384 → ((gI z_384 38).toInt ≤ (gI z 36).toInt) → ((gI z 36).toInt - (gI z_384 38).toInt).toNat < n → K_383 z_384 := by
            intro n
            induction n with
            | zero => intro z_384 tz_384 ocz_384 w_410 m_412; omega
            | succ n ih_411 =>
              intro z_384 tz_384 ocz_384 w_410 m_412
              have f_413 : 0 ≤ (gI z_384 38).toInt ∧ (gI z_384 38).toInt ≤ 300 := tz_384.1 38
              refine hK_408 z_384 ?_
              intro K_385 hK_414
              have L_415 : ∀ (n : Nat)  (z_386 : St), TM z_386 → Same [37, 38, 39] [] z z_386 → ((gI z_386 38).toInt ≤ (gI z 36).toInt) → ((gI z 36).toInt - (gI z_386 38).toInt).toNat < n → K_385 z_386 := by
                intro n
                induction n with
                | zero => intro z_386 tz_386 ocz_386 w_416 m_418; omega
                | succ n ih_417 =>
                  intro z_386 tz_386 ocz_386 w_416 m_418
                  have f_419 : 0 ≤ (gI z_386 38).toInt ∧ (gI z_386 38).toInt ≤ 300 := tz_386.1 38
                  refine hK_414 z_386 ?_
                  refine ⟨fun c_387 => ?_, fun c_387 => ?_⟩
                  · skip
                    have i_420 := i_ne rfl (show (2 : Int32).toInt = 2 by decide) c_387
                    exact hk z_386 tz_386 ocz_386 (by omega)
                  · skip
                    have i_421 := i_eq rfl (show (2 : Int32).toInt = 2 by decide) c_387
                    refine ⟨fun c_388 => ?_, fun c_388 => ?_⟩
                    · skip
                      have f_422 : 0 ≤ (gI z_386 36).toInt ∧ (gI z_386 36).toInt ≤ 300 := tz_386.1 36
                      have q_423 := (ocz_386.fi 36 (by decide))
                      have i_424 := i_le rfl rfl c_388
                      exact hk z_386 tz_386 ocz_386 (by omega)
                    · skip
                      have f_425 : 0 ≤ (gI z_386 36).toInt ∧ (gI z_386 36).toInt ≤ 300 := tz_386.1 36
                      have q_426 := (ocz_386.fi 36 (by decide))
                      have i_427 := i_nle rfl rfl c_388
                      refine ⟨vin rfl (by omega) (by omega), ?_⟩
                      have q_428 := (ocz_386.ff 25 (gI z_386 38).toNatClampNeg (by decide))
                      refine s_X9_isDigit (gF z_386 25 (gI z_386 38).toNatClampNeg) z_386 _ tz_386  (fun r_389 hp_429 => ?_)
                      rcases hp_429 with ⟨er_389, hp_429⟩ | ⟨er_389, hp_429⟩
                      · subst er_389
                        refine ⟨fun hc => absurd hc (by decide), fun _ => ?_⟩
                        intro K_391 hK_430
                        refine ⟨fun c_395 => ?_, fun c_395 => ?_⟩
                        · skip
                          refine ⟨vin rfl (by omega) (by omega), ?_⟩
                          refine hK_430 (((((gJ z_386 40) * (10 : Int64)) + (Int32.toInt64 (gF z_386 25 (gI z_386 38).toNatClampNeg))) - (48 : Int64))) ?_
                          intro z_431 ez_431
                          have tz_431 : TM z_431 := by rw [ez_431]; exact Ty_wJ tz_386
                          have oz_431 : Same [37, 38, 39] [] z z_431 := ocz_386.j ez_431
                          intro z_432 ez_432
                          have f_433 : 0 ≤ (gI z_431 38).toInt ∧ (gI z_431 38).toInt ≤ 300 := tz_431.1 38
                          have q_434 := (show (gI z_431 38).toInt = (gI z_386 38).toInt by rw [ez_431]; rfl)
                          have tz_432 : TM z_432 := by rw [ez_432]; exact Ty_wI tz_431 (show 0 ≤ ((gI z_431 38) + (1 : Int32)).toInt ∧ ((gI z_431 38) + (1 : Int32)).toInt ≤ 300 from by rw [(a_add rfl (show (1 : Int32).toInt = 1 by decide) (by omega) (by omega))]; omega)
                          have oz_432 : Same [37, 38, 39] [] z z_432 := oz_431.i (by decide) ez_432
                          have f_435 : 0 ≤ (gI z_432 38).toInt ∧ (gI z_432 38).toInt ≤ 300 := tz_432.1 38
                          have q_436 := (show (gI z_432 38).toInt = ((gI z_431 38) + (1 : Int32)).toInt by rw [ez_432]; rfl)
                          have q_437 : ((gI z_431 38) + (1 : Int32)).toInt = ((gI z_431 38).toInt + (1)) := (a_add rfl (show (1 : Int32).toInt = 1 by decide) (by omega) (by omega))
                          exact ih_417  z_432 tz_432 oz_432 (by omega) (by omega)
                        · skip
                          refine hK_430 ((gJ z_386 40)) ?_
                          intro z_438 ez_438
                          have tz_438 : TM z_438 := by rw [ez_438]; exact Ty_wJ tz_386
                          have oz_438 : Same [37, 38, 39] [] z z_438 := ocz_386.j ez_438
                          intro z_439 ez_439
                          have f_440 : 0 ≤ (gI z_438 38).toInt ∧ (gI z_438 38).toInt ≤ 300 := tz_438.1 38
                          have q_441 := (show (gI z_438 38).toInt = (gI z_386 38).toInt by rw [ez_438]; rfl)
                          have tz_439 : TM z_439 := by rw [ez_439]; exact Ty_wI tz_438 (show 0 ≤ ((gI z_438 38) + (1 : Int32)).toInt ∧ ((gI z_438 38) + (1 : Int32)).toInt ≤ 300 from by rw [(a_add rfl (show (1 : Int32).toInt = 1 by decide) (by omega) (by omega))]; omega)
                          have oz_439 : Same [37, 38, 39] [] z z_439 := oz_438.i (by decide) ez_439
                          have f_442 : 0 ≤ (gI z_439 38).toInt ∧ (gI z_439 38).toInt ≤ 300 := tz_439.1 38
                          have q_443 := (show (gI z_439 38).toInt = ((gI z_438 38) + (1 : Int32)).toInt by rw [ez_439]; rfl)
                          have q_444 : ((gI z_438 38) + (1 : Int32)).toInt = ((gI z_438 38).toInt + (1)) := (a_add rfl (show (1 : Int32).toInt = 1 by decide) (by omega) (by omega))
                          exact ih_417  z_439 tz_439 oz_439 (by omega) (by omega)
                      · subst er_389
                        refine ⟨fun _ => ?_, fun hc => absurd (show ((0 : Int32)) = ((0 : Int32)) by decide) hc⟩
                        exact hk z_386 tz_386 ocz_386 (by omega)
              refine ⟨fun c_396 => ?_, fun c_396 => ?_⟩
              · skip
                have i_445 := i_ne rfl (show (1 : Int32).toInt = 1 by decide) c_396
                exact L_415 (((gI z 36).toInt - (gI z_384 38).toInt).toNat + 1)  z_384 tz_384 ocz_384 (by omega) (by omega)
              · skip
                have i_446 := i_eq rfl (show (1 : Int32).toInt = 1 by decide) c_396
                refine ⟨fun c_397 => ?_, fun c_397 => ?_⟩
                · skip
                  have f_447 : 0 ≤ (gI z_384 36).toInt ∧ (gI z_384 36).toInt ≤ 300 := tz_384.1 36
                  have q_448 := (ocz_384.fi 36 (by decide))
                  have i_449 := i_le rfl rfl c_397
                  exact L_415 (((gI z 36).toInt - (gI z_384 38).toInt).toNat + 1)  z_384 tz_384 ocz_384 (by omega) (by omega)
                · skip
                  have f_450 : 0 ≤ (gI z_384 36).toInt ∧ (gI z_384 36).toInt ≤ 300 := tz_384.1 36
                  have q_451 := (ocz_384.fi 36 (by decide))
                  have i_452 := i_nle rfl rfl c_397
                  refine ⟨vin rfl (by omega) (by omega), ?_⟩
                  have q_453 := (ocz_384.ff 25 (gI z_384 38).toNatClampNeg (by decide))
                  refine s_X9_isSmall (gF z_384 25 (gI z_384 38).toNatClampNeg) z_384 _ tz_384  (fun r_398 hp_454 => ?_)
                  rcases hp_454 with ⟨er_398, hp_454⟩ | ⟨er_398, hp_454⟩
                  · subst er_398
                    refine ⟨fun hc => absurd hc (by decide), fun _ => ?_⟩
                    intro K_400 hK_455
                    refine ⟨fun c_404 => ?_, fun c_404 => ?_⟩
                    · skip
                      have f_456 : 0 ≤ (gI z_384 37).toInt ∧ (gI z_384 37).toInt ≤ 300 := tz_384.1 37
                      have i_457 := i_le (show (7 : Int32).toInt = 7 by decide) (a_sub rfl rfl (by omega) (by omega)) c_404
                      refine hK_455 ((-1 : Int64)) ?_
                      intro z_458 ez_458
                      have tz_458 : TM z_458 := by rw [ez_458]; exact Ty_wJ tz_384
                      have oz_458 : Same [37, 38, 39] [] z z_458 := ocz_384.j ez_458
                      intro z_459 ez_459
                      have f_460 : 0 ≤ (gI z_458 38).toInt ∧ (gI z_458 38).toInt ≤ 300 := tz_458.1 38
                      have q_461 := (show (gI z_458 38).toInt = (gI z_384 38).toInt by rw [ez_458]; rfl)
                      have tz_459 : TM z_459 := by rw [ez_459]; exact Ty_wI tz_458 (show 0 ≤ ((gI z_458 38) + (1 : Int32)).toInt ∧ ((gI z_458 38) + (1 : Int32)).toInt ≤ 300 from by rw [(a_add rfl (show (1 : Int32).toInt = 1 by decide) (by omega) (by omega))]; omega)
                      have oz_459 : Same [37, 38, 39] [] z z_459 := oz_458.i (by decide) ez_459
                      have f_462 : 0 ≤ (gI z_459 38).toInt ∧ (gI z_459 38).toInt ≤ 300 := tz_459.1 38
                      have q_463 := (show (gI z_459 38).toInt = ((gI z_458 38) + (1 : Int32)).toInt by rw [ez_459]; rfl)
                      have q_464 : ((gI z_458 38) + (1 : Int32)).toInt = ((gI z_458 38).toInt + (1)) := (a_add rfl (show (1 : Int32).toInt = 1 by decide) (by omega) (by omega))
                      exact ih_411  z_459 tz_459 oz_459 (by omega) (by omega)
                    · skip
                      have f_465 : 0 ≤ (gI z_384 37).toInt ∧ (gI z_384 37).toInt ≤ 300 := tz_384.1 37
                      have i_466 := i_nle (show (7 : Int32).toInt = 7 by decide) (a_sub rfl rfl (by omega) (by omega)) c_404
                      refine ⟨vin rfl (by omega) (by omega), ?_⟩
                      refine hK_455 (((((gJ z_384 40) * (32 : Int64)) + (Int32.toInt64 (gF z_384 25 (gI z_384 38).toNatClampNeg))) - (96 : Int64))) ?_
                      intro z_467 ez_467
                      have tz_467 : TM z_467 := by rw [ez_467]; exact Ty_wJ tz_384
                      have oz_467 : Same [37, 38, 39] [] z z_467 := ocz_384.j ez_467
                      intro z_468 ez_468
                      have f_469 : 0 ≤ (gI z_467 38).toInt ∧ (gI z_467 38).toInt ≤ 300 := tz_467.1 38
                      have q_470 := (show (gI z_467 38).toInt = (gI z_384 38).toInt by rw [ez_467]; rfl)
                      have tz_468 : TM z_468 := by rw [ez_468]; exact Ty_wI tz_467 (show 0 ≤ ((gI z_467 38) + (1 : Int32)).toInt ∧ ((gI z_467 38) + (1 : Int32)).toInt ≤ 300 from by rw [(a_add rfl (show (1 : Int32).toInt = 1 by decide) (by omega) (by omega))]; omega)
                      have oz_468 : Same [37, 38, 39] [] z z_468 := oz_467.i (by decide) ez_468
                      have f_471 : 0 ≤ (gI z_468 38).toInt ∧ (gI z_468 38).toInt ≤ 300 := tz_468.1 38
                      have q_472 := (show (gI z_468 38).toInt = ((gI z_467 38) + (1 : Int32)).toInt by rw [ez_468]; rfl)
                      have q_473 : ((gI z_467 38) + (1 : Int32)).toInt = ((gI z_467 38).toInt + (1)) := (a_add rfl (show (1 : Int32).toInt = 1 by decide) (by omega) (by omega))
                      exact ih_411  z_468 tz_468 oz_468 (by omega) (by omega)
                  · subst er_398
                    refine ⟨fun _ => ?_, fun hc => absurd (show ((0 : Int32)) = ((0 : Int32)) by decide) hc⟩
                    exact L_415 (((gI z 36).toInt - (gI z_384 38).toInt).toNat + 1)  z_384 tz_384 ocz_384 (by omega) (by omega)
          refine ⟨fun c_405 => ?_, fun c_405 => ?_⟩
          · skip
            have q_474 := (show (gI z_382 39).toInt = (0 : Int32).toInt by rw [ez_382]; rfl)
            have q_475 : (0 : Int32).toInt = (0) := (show (0 : Int32).toInt = 0 by decide)
            have i_476 := i_ne rfl (show (3 : Int32).toInt = 3 by decide) c_405
            have f_477 : 0 ≤ (gI z_382 38).toInt ∧ (gI z_382 38).toInt ≤ 300 := tz_382.1 38
            have q_478 := (((show (gI z_382 38).toInt = (gI z_13 38).toInt by rw [ez_382]; rfl)).trans (show (gI z_13 38).toInt = (gI z_12 38).toInt by rw [ez_13]; rfl)).trans (show (gI z_12 38).toInt = (gI z2 37).toInt by rw [ez_12]; rfl)
            exact L_409 (((gI z 36).toInt - (gI z_382 38).toInt).toNat + 1)  z_382 tz_382 oz_382 (by omega) (by omega)
          · skip
            have q_479 := (show (gI z_382 39).toInt = (0 : Int32).toInt by rw [ez_382]; rfl)
            have q_480 : (0 : Int32).toInt = (0) := (show (0 : Int32).toInt = 0 by decide)
            have i_481 := i_eq rfl (show (3 : Int32).toInt = 3 by decide) c_405
            have f_482 : 0 ≤ (gI z_382 37).toInt ∧ (gI z_382 37).toInt ≤ 300 := tz_382.1 37
            have q_483 := (((show (gI z_382 37).toInt = (gI z_13 37).toInt by rw [ez_382]; rfl)).trans (show (gI z_13 37).toInt = (gI z_12 37).toInt by rw [ez_13]; rfl)).trans (show (gI z_12 37).toInt = (gI z2 37).toInt by rw [ez_12]; rfl)
            refine ⟨vin rfl (by omega) (by omega), ?_⟩
            intro z_406 ez_406
            have tz_406 : TM z_406 := by rw [ez_406]; exact Ty_wJ tz_382
            have oz_406 : Same [37, 38, 39] [] z z_406 := oz_382.j ez_406
            intro z_407 ez_407
            have f_484 : 0 ≤ (gI z_406 38).toInt ∧ (gI z_406 38).toInt ≤ 300 := tz_406.1 38
            have q_485 := ((((show (gI z_406 38).toInt = (gI z_382 38).toInt by rw [ez_406]; rfl)).trans (show (gI z_382 38).toInt = (gI z_13 38).toInt by rw [ez_382]; rfl)).trans (show (gI z_13 38).toInt = (gI z_12 38).toInt by rw [ez_13]; rfl)).trans (show (gI z_12 38).toInt = (gI z2 37).toInt by rw [ez_12]; rfl)
            have tz_407 : TM z_407 := by rw [ez_407]; exact Ty_wI tz_406 (show 0 ≤ ((gI z_406 38) + (1 : Int32)).toInt ∧ ((gI z_406 38) + (1 : Int32)).toInt ≤ 300 from by rw [(a_add rfl (show (1 : Int32).toInt = 1 by decide) (by omega) (by omega))]; omega)
            have oz_407 : Same [37, 38, 39] [] z z_407 := oz_406.i (by decide) ez_407
            have f_486 : 0 ≤ (gI z_407 38).toInt ∧ (gI z_407 38).toInt ≤ 300 := tz_407.1 38
            have q_487 := (show (gI z_407 38).toInt = ((gI z_406 38) + (1 : Int32)).toInt by rw [ez_407]; rfl)
            have q_488 : ((gI z_406 38) + (1 : Int32)).toInt = ((gI z_406 38).toInt + (1)) := (a_add rfl (show (1 : Int32).toInt = 1 by decide) (by omega) (by omega))
            exact L_409 (((gI z 36).toInt - (gI z_407 38).toInt).toNat + 1)  z_407 tz_407 oz_407 (by omega) (by omega)
      · skip
        have f_489 : 0 ≤ (gI z2 36).toInt ∧ (gI z2 36).toInt ≤ 300 := tz2.1 36
        have q_490 := (ocz2.fi 36 (by decide))
        have i_491 := i_nle rfl rfl c43
        refine ⟨vin rfl (by omega) (by omega), ?_⟩
        refine ⟨fun c44 => ?_, fun c44 => ?_⟩
        · skip
          have q_492 := (ocz2.ff 25 (gI z2 37).toNatClampNeg (by decide))
          have i_493 := i_ne rfl (show (32 : Int32).toInt = 32 by decide) c44
          refine hK_8  ?_
          intro z_494 ez_494
          have tz_494 : TM z_494 := by rw [ez_494]; exact Ty_wI tz2 (show 0 ≤ (gI z2 37).toInt ∧ (gI z2 37).toInt ≤ 300 from by omega)
          have oz_494 : Same [37, 38, 39] [] z z_494 := ocz2.i (by decide) ez_494
          intro z_495 ez_495
          have tz_495 : TM z_495 := by rw [ez_495]; exact Ty_wJ tz_494
          have oz_495 : Same [37, 38, 39] [] z z_495 := oz_494.j ez_495
          intro K_496 hK_529
          refine ⟨fun c_524 => ?_, fun c_524 => ?_⟩
          · skip
            have f_530 : 0 ≤ (gI z_495 37).toInt ∧ (gI z_495 37).toInt ≤ 300 := tz_495.1 37
            have q_531 := ((show (gI z_495 37).toInt = (gI z_494 37).toInt by rw [ez_495]; rfl)).trans (show (gI z_494 37).toInt = (gI z2 37).toInt by rw [ez_494]; rfl)
            have f_532 : 0 ≤ (gI z_495 36).toInt ∧ (gI z_495 36).toInt ≤ 300 := tz_495.1 36
            have q_533 := (((show (gI z_495 36).toInt = (gI z_494 36).toInt by rw [ez_495]; rfl)).trans (show (gI z_494 36).toInt = (gI z2 36).toInt by rw [ez_494]; rfl)).trans (ocz2.fi 36 (by decide))
            have i_534 := i_ne rfl rfl c_524
            refine ⟨vin rfl (by omega) (by omega), ?_⟩
            have q_535 := (((show (gF z_495 25 (gI z_495 37).toNatClampNeg).toInt = (gF z_494 25 (gI z_495 37).toNatClampNeg).toInt by rw [ez_495]; rfl)).trans (show (gF z_494 25 (gI z_495 37).toNatClampNeg).toInt = (gF z2 25 (gI z_495 37).toNatClampNeg).toInt by rw [ez_494]; rfl)).trans (ocz2.ff 25 (gI z_495 37).toNatClampNeg (by decide))
            refine s_X9_isSmall (gF z_495 25 (gI z_495 37).toNatClampNeg) z_495 _ tz_495  (fun r_525 hp_536 => ?_)
            rcases hp_536 with ⟨er_525, hp_536⟩ | ⟨er_525, hp_536⟩
            · subst er_525
              refine ⟨fun hc => absurd hc (by decide), fun _ => ?_⟩
              refine hK_529 ((1 : Int32)) ?_
              intro z_537 ez_537
              have tz_537 : TM z_537 := by rw [ez_537]; exact Ty_wI tz_495 trivial
              have oz_537 : Same [37, 38, 39] [] z z_537 := oz_495.i (by decide) ez_537
              intro K_538 hK_563
              have L_564 : ∀ (n : Nat)  (z_539 : St), TM z_539 → Same [37, 38, 39] [] z z_539 → ((gI z_539 38).toInt ≤ (gI z 36).toInt) → ((gI z 36).toInt - (gI z_539 38).toInt).toNat < n → K_538 z_539 := by
                intro n
                induction n with
                | zero => intro z_539 tz_539 ocz_539 w_565 m_567; omega
                | succ n ih_566 =>
                  intro z_539 tz_539 ocz_539 w_565 m_567
                  have f_568 : 0 ≤ (gI z_539 38).toInt ∧ (gI z_539 38).toInt ≤ 300 := tz_539.1 38
                  refine hK_563 z_539 ?_
                  intro K_540 hK_569
                  have L_570 : ∀ (n : Nat)  (z_541 : St), TM z_541 → Same [37, 38, 39] [] z z_541 → ((gI z_541 38).toInt ≤ (gI z 36).toInt) → ((gI z 36).toInt - (gI z_541 38).toInt).toNat < n → K_540 z_541 := by
                    intro n
                    induction n with
                    | zero => intro z_541 tz_541 ocz_541 w_571 m_573; omega
                    | succ n ih_572 =>
                      intro z_541 tz_541 ocz_541 w_571 m_573
                      have f_574 : 0 ≤ (gI z_541 38).toInt ∧ (gI z_541 38).toInt ≤ 300 := tz_541.1 38
                      refine hK_569 z_541 ?_
                      refine ⟨fun c_542 => ?_, fun c_542 => ?_⟩
                      · skip
                        have i_575 := i_ne rfl (show (2 : Int32).toInt = 2 by decide) c_542
                        exact hk z_541 tz_541 ocz_541 (by omega)
                      · skip
                        have i_576 := i_eq rfl (show (2 : Int32).toInt = 2 by decide) c_542
                        refine ⟨fun c_543 => ?_, fun c_543 => ?_⟩
                        · skip
                          have f_577 : 0 ≤ (gI z_541 36).toInt ∧ (gI z_541 36).toInt ≤ 300 := tz_541.1 36
                          have q_578 := (ocz_541.fi 36 (by decide))
                          have i_579 := i_le rfl rfl c_543
                          exact hk z_541 tz_541 ocz_541 (by omega)
                        · skip
                          have f_580 : 0 ≤ (gI z_541 36).toInt ∧ (gI z_541 36).toInt ≤ 300 := tz_541.1 36
                          have q_581 := (ocz_541.fi 36 (by decide))
                          have i_582 := i_nle rfl rfl c_543
                          refine ⟨vin rfl (by omega) (by omega), ?_⟩
                          have q_583 := (ocz_541.ff 25 (gI z_541 38).toNatClampNeg (by decide))
                          refine s_X9_isDigit (gF z_541 25 (gI z_541 38).toNatClampNeg) z_541 _ tz_541  (fun r_544 hp_584 => ?_)
                          rcases hp_584 with ⟨er_544, hp_584⟩ | ⟨er_544, hp_584⟩
                          · subst er_544
                            refine ⟨fun hc => absurd hc (by decide), fun _ => ?_⟩
                            intro K_546 hK_585
                            refine ⟨fun c_550 => ?_, fun c_550 => ?_⟩
                            · skip
                              refine ⟨vin rfl (by omega) (by omega), ?_⟩
                              refine hK_585 (((((gJ z_541 40) * (10 : Int64)) + (Int32.toInt64 (gF z_541 25 (gI z_541 38).toNatClampNeg))) - (48 : Int64))) ?_
                              intro z_586 ez_586
                              have tz_586 : TM z_586 := by rw [ez_586]; exact Ty_wJ tz_541
                              have oz_586 : Same [37, 38, 39] [] z z_586 := ocz_541.j ez_586
                              intro z_587 ez_587
                              have f_588 : 0 ≤ (gI z_586 38).toInt ∧ (gI z_586 38).toInt ≤ 300 := tz_586.1 38
                              have q_589 := (show (gI z_586 38).toInt = (gI z_541 38).toInt by rw [ez_586]; rfl)
                              have tz_587 : TM z_587 := by rw [ez_587]; exact Ty_wI tz_586 (show 0 ≤ ((gI z_586 38) + (1 : Int32)).toInt ∧ ((gI z_586 38) + (1 : Int32)).toInt ≤ 300 from by rw [(a_add rfl (show (1 : Int32).toInt = 1 by decide) (by omega) (by omega))]; omega)
                              have oz_587 : Same [37, 38, 39] [] z z_587 := oz_586.i (by decide) ez_587
                              have f_590 : 0 ≤ (gI z_587 38).toInt ∧ (gI z_587 38).toInt ≤ 300 := tz_587.1 38
                              have q_591 := (show (gI z_587 38).toInt = ((gI z_586 38) + (1 : Int32)).toInt by rw [ez_587]; rfl)
                              have q_592 : ((gI z_586 38) + (1 : Int32)).toInt = ((gI z_586 38).toInt + (1)) := (a_add rfl (show (1 : Int32).toInt = 1 by decide) (by omega) (by omega))
                              exact ih_572  z_587 tz_587 oz_587 (by omega) (by omega)
                            · skip
                              refine hK_585 ((gJ z_541 40)) ?_
                              intro z_593 ez_593
                              have tz_593 : TM z_593 := by rw [ez_593]; exact Ty_wJ tz_541
                              have oz_593 : Same [37, 38, 39] [] z z_593 := ocz_541.j ez_593
                              intro z_594 ez_594
                              have f_595 : 0 ≤ (gI z_593 38).toInt ∧ (gI z_593 38).toInt ≤ 300 := tz_593.1 38
                              have q_596 := (show (gI z_593 38).toInt = (gI z_541 38).toInt by rw [ez_593]; rfl)
                              have tz_594 : TM z_594 := by rw [ez_594]; exact Ty_wI tz_593 (show 0 ≤ ((gI z_593 38) + (1 : Int32)).toInt ∧ ((gI z_593 38) + (1 : Int32)).toInt ≤ 300 from by rw [(a_add rfl (show (1 : Int32).toInt = 1 by decide) (by omega) (by omega))]; omega)
                              have oz_594 : Same [37, 38, 39] [] z z_594 := oz_593.i (by decide) ez_594
                              have f_597 : 0 ≤ (gI z_594 38).toInt ∧ (gI z_594 38).toInt ≤ 300 := tz_594.1 38
                              have q_598 := (show (gI z_594 38).toInt = ((gI z_593 38) + (1 : Int32)).toInt by rw [ez_594]; rfl)
                              have q_599 : ((gI z_593 38) + (1 : Int32)).toInt = ((gI z_593 38).toInt + (1)) := (a_add rfl (show (1 : Int32).toInt = 1 by decide) (by omega) (by omega))
                              exact ih_572  z_594 tz_594 oz_594 (by omega) (by omega)
                          · subst er_544
                            refine ⟨fun _ => ?_, fun hc => absurd (show ((0 : Int32)) = ((0 : Int32)) by decide) hc⟩
                            exact hk z_541 tz_541 ocz_541 (by omega)
                  refine ⟨fun c_551 => ?_, fun c_551 => ?_⟩
                  · skip
                    have i_600 := i_ne rfl (show (1 : Int32).toInt = 1 by decide) c_551
                    exact L_570 (((gI z 36).toInt - (gI z_539 38).toInt).toNat + 1)  z_539 tz_539 ocz_539 (by omega) (by omega)
                  · skip
                    have i_601 := i_eq rfl (show (1 : Int32).toInt = 1 by decide) c_551
                    refine ⟨fun c_552 => ?_, fun c_552 => ?_⟩
                    · skip
                      have f_602 : 0 ≤ (gI z_539 36).toInt ∧ (gI z_539 36).toInt ≤ 300 := tz_539.1 36
                      have q_603 := (ocz_539.fi 36 (by decide))
                      have i_604 := i_le rfl rfl c_552
                      exact L_570 (((gI z 36).toInt - (gI z_539 38).toInt).toNat + 1)  z_539 tz_539 ocz_539 (by omega) (by omega)
                    · skip
                      have f_605 : 0 ≤ (gI z_539 36).toInt ∧ (gI z_539 36).toInt ≤ 300 := tz_539.1 36
                      have q_606 := (ocz_539.fi 36 (by decide))
                      have i_607 := i_nle rfl rfl c_552
                      refine ⟨vin rfl (by omega) (by omega), ?_⟩
                      have q_608 := (ocz_539.ff 25 (gI z_539 38).toNatClampNeg (by decide))
                      refine s_X9_isSmall (gF z_539 25 (gI z_539 38).toNatClampNeg) z_539 _ tz_539  (fun r_553 hp_609 => ?_)
                      rcases hp_609 with ⟨er_553, hp_609⟩ | ⟨er_553, hp_609⟩
                      · subst er_553
                        refine ⟨fun hc => absurd hc (by decide), fun _ => ?_⟩
                        intro K_555 hK_610
                        refine ⟨fun c_559 => ?_, fun c_559 => ?_⟩
                        · skip
                          have f_611 : 0 ≤ (gI z_539 37).toInt ∧ (gI z_539 37).toInt ≤ 300 := tz_539.1 37
                          have i_612 := i_le (show (7 : Int32).toInt = 7 by decide) (a_sub rfl rfl (by omega) (by omega)) c_559
                          refine hK_610 ((-1 : Int64)) ?_
                          intro z_613 ez_613
                          have tz_613 : TM z_613 := by rw [ez_613]; exact Ty_wJ tz_539
                          have oz_613 : Same [37, 38, 39] [] z z_613 := ocz_539.j ez_613
                          intro z_614 ez_614
                          have f_615 : 0 ≤ (gI z_613 38).toInt ∧ (gI z_613 38).toInt ≤ 300 := tz_613.1 38
                          have q_616 := (show (gI z_613 38).toInt = (gI z_539 38).toInt by rw [ez_613]; rfl)
                          have tz_614 : TM z_614 := by rw [ez_614]; exact Ty_wI tz_613 (show 0 ≤ ((gI z_613 38) + (1 : Int32)).toInt ∧ ((gI z_613 38) + (1 : Int32)).toInt ≤ 300 from by rw [(a_add rfl (show (1 : Int32).toInt = 1 by decide) (by omega) (by omega))]; omega)
                          have oz_614 : Same [37, 38, 39] [] z z_614 := oz_613.i (by decide) ez_614
                          have f_617 : 0 ≤ (gI z_614 38).toInt ∧ (gI z_614 38).toInt ≤ 300 := tz_614.1 38
                          have q_618 := (show (gI z_614 38).toInt = ((gI z_613 38) + (1 : Int32)).toInt by rw [ez_614]; rfl)
                          have q_619 : ((gI z_613 38) + (1 : Int32)).toInt = ((gI z_613 38).toInt + (1)) := (a_add rfl (show (1 : Int32).toInt = 1 by decide) (by omega) (by omega))
                          exact ih_566  z_614 tz_614 oz_614 (by omega) (by omega)
                        · skip
                          have f_620 : 0 ≤ (gI z_539 37).toInt ∧ (gI z_539 37).toInt ≤ 300 := tz_539.1 37
                          have i_621 := i_nle (show (7 : Int32).toInt = 7 by decide) (a_sub rfl rfl (by omega) (by omega)) c_559
                          refine ⟨vin rfl (by omega) (by omega), ?_⟩
                          refine hK_610 (((((gJ z_539 40) * (32 : Int64)) + (Int32.toInt64 (gF z_539 25 (gI z_539 38).toNatClampNeg))) - (96 : Int64))) ?_
                          intro z_622 ez_622
                          have tz_622 : TM z_622 := by rw [ez_622]; exact Ty_wJ tz_539
                          have oz_622 : Same [37, 38, 39] [] z z_622 := ocz_539.j ez_622
                          intro z_623 ez_623
                          have f_624 : 0 ≤ (gI z_622 38).toInt ∧ (gI z_622 38).toInt ≤ 300 := tz_622.1 38
                          have q_625 := (show (gI z_622 38).toInt = (gI z_539 38).toInt by rw [ez_622]; rfl)
                          have tz_623 : TM z_623 := by rw [ez_623]; exact Ty_wI tz_622 (show 0 ≤ ((gI z_622 38) + (1 : Int32)).toInt ∧ ((gI z_622 38) + (1 : Int32)).toInt ≤ 300 from by rw [(a_add rfl (show (1 : Int32).toInt = 1 by decide) (by omega) (by omega))]; omega)
                          have oz_623 : Same [37, 38, 39] [] z z_623 := oz_622.i (by decide) ez_623
                          have f_626 : 0 ≤ (gI z_623 38).toInt ∧ (gI z_623 38).toInt ≤ 300 := tz_623.1 38
                          have q_627 := (show (gI z_623 38).toInt = ((gI z_622 38) + (1 : Int32)).toInt by rw [ez_623]; rfl)
                          have q_628 : ((gI z_622 38) + (1 : Int32)).toInt = ((gI z_622 38).toInt + (1)) := (a_add rfl (show (1 : Int32).toInt = 1 by decide) (by omega) (by omega))
                          exact ih_566  z_623 tz_623 oz_623 (by omega) (by omega)
                      · subst er_553
                        refine ⟨fun _ => ?_, fun hc => absurd (show ((0 : Int32)) = ((0 : Int32)) by decide) hc⟩
                        exact L_570 (((gI z 36).toInt - (gI z_539 38).toInt).toNat + 1)  z_539 tz_539 ocz_539 (by omega) (by omega)
              refine ⟨fun c_560 => ?_, fun c_560 => ?_⟩
              · skip
                have q_629 := (show (gI z_537 39).toInt = (1 : Int32).toInt by rw [ez_537]; rfl)
                have q_630 : (1 : Int32).toInt = (1) := (show (1 : Int32).toInt = 1 by decide)
                have i_631 := i_ne rfl (show (3 : Int32).toInt = 3 by decide) c_560
                have f_632 : 0 ≤ (gI z_537 38).toInt ∧ (gI z_537 38).toInt ≤ 300 := tz_537.1 38
                have q_633 := (((show (gI z_537 38).toInt = (gI z_495 38).toInt by rw [ez_537]; rfl)).trans (show (gI z_495 38).toInt = (gI z_494 38).toInt by rw [ez_495]; rfl)).trans (show (gI z_494 38).toInt = (gI z2 37).toInt by rw [ez_494]; rfl)
                exact L_564 (((gI z 36).toInt - (gI z_537 38).toInt).toNat + 1)  z_537 tz_537 oz_537 (by omega) (by omega)
              · skip
                have q_634 := (show (gI z_537 39).toInt = (1 : Int32).toInt by rw [ez_537]; rfl)
                have q_635 : (1 : Int32).toInt = (1) := (show (1 : Int32).toInt = 1 by decide)
                have i_636 := i_eq rfl (show (3 : Int32).toInt = 3 by decide) c_560
                have f_637 : 0 ≤ (gI z_537 37).toInt ∧ (gI z_537 37).toInt ≤ 300 := tz_537.1 37
                have q_638 := (((show (gI z_537 37).toInt = (gI z_495 37).toInt by rw [ez_537]; rfl)).trans (show (gI z_495 37).toInt = (gI z_494 37).toInt by rw [ez_495]; rfl)).trans (show (gI z_494 37).toInt = (gI z2 37).toInt by rw [ez_494]; rfl)
                refine ⟨vin rfl (by omega) (by omega), ?_⟩
                intro z_561 ez_561
                have tz_561 : TM z_561 := by rw [ez_561]; exact Ty_wJ tz_537
                have oz_561 : Same [37, 38, 39] [] z z_561 := oz_537.j ez_561
                intro z_562 ez_562
                have f_639 : 0 ≤ (gI z_561 38).toInt ∧ (gI z_561 38).toInt ≤ 300 := tz_561.1 38
                have q_640 := ((((show (gI z_561 38).toInt = (gI z_537 38).toInt by rw [ez_561]; rfl)).trans (show (gI z_537 38).toInt = (gI z_495 38).toInt by rw [ez_537]; rfl)).trans (show (gI z_495 38).toInt = (gI z_494 38).toInt by rw [ez_495]; rfl)).trans (show (gI z_494 38).toInt = (gI z2 37).toInt by rw [ez_494]; rfl)
                have tz_562 : TM z_562 := by rw [ez_562]; exact Ty_wI tz_561 (show 0 ≤ ((gI z_561 38) + (1 : Int32)).toInt ∧ ((gI z_561 38) + (1 : Int32)).toInt ≤ 300 from by rw [(a_add rfl (show (1 : Int32).toInt = 1 by decide) (by omega) (by omega))]; omega)
                have oz_562 : Same [37, 38, 39] [] z z_562 := oz_561.i (by decide) ez_562
                have f_641 : 0 ≤ (gI z_562 38).toInt ∧ (gI z_562 38).toInt ≤ 300 := tz_562.1 38
                have q_642 := (show (gI z_562 38).toInt = ((gI z_561 38) + (1 : Int32)).toInt by rw [ez_562]; rfl)
                have q_643 : ((gI z_561 38) + (1 : Int32)).toInt = ((gI z_561 38).toInt + (1)) := (a_add rfl (show (1 : Int32).toInt = 1 by decide) (by omega) (by omega))
                exact L_564 (((gI z 36).toInt - (gI z_562 38).toInt).toNat + 1)  z_562 tz_562 oz_562 (by omega) (by omega)
            · subst er_525
              refine ⟨fun _ => ?_, fun hc => absurd (show ((0 : Int32)) = ((0 : Int32)) by decide) hc⟩
              refine ⟨vin rfl (by omega) (by omega), ?_⟩
              refine s_X9_isDigit (gF z_495 25 (gI z_495 37).toNatClampNeg) z_495 _ tz_495  (fun r_527 hp_644 => ?_)
              rcases hp_644 with ⟨er_527, hp_644⟩ | ⟨er_527, hp_644⟩
              · subst er_527
                refine ⟨fun hc => absurd hc (by decide), fun _ => ?_⟩
                refine hK_529 ((2 : Int32)) ?_
                intro z_645 ez_645
                have tz_645 : TM z_645 := by rw [ez_645]; exact Ty_wI tz_495 trivial
                have oz_645 : Same [37, 38, 39] [] z z_645 := oz_495.i (by decide) ez_645
                intro K_646 hK_671
                have L_672 : ∀ (n : Nat)  (z_647 : St), TM z_647 → Same [37, 38, 39] [] z z_647 → ((gI z_647 38).toInt ≤ (gI z 36).toInt) → ((gI z 36).toInt - (gI z_647 38).toInt).toNat < n → K_646 z_647 := by
                  intro n
                  induction n with
                  | zero => intro z_647 tz_647 ocz_647 w_673 m_675; omega
                  | succ n ih_674 =>
                    intro z_647 tz_647 ocz_647 w_673 m_675
                    have f_676 : 0 ≤ (gI z_647 38).toInt ∧ (gI z_647 38).toInt ≤ 300 := tz_647.1 38
                    refine hK_671 z_647 ?_
                    intro K_648 hK_677
                    have L_678 : ∀ (n : Nat)  (z_649 : St), TM z_649 → Same [37, 38, 39] [] z z_649 → ((gI z_649 38).toInt ≤ (gI z 36).toInt) → ((gI z 36).toInt - (gI z_649 38).toInt).toNat < n → K_648 z_649 := by
                      intro n
                      induction n with
                      | zero => intro z_649 tz_649 ocz_649 w_679 m_681; omega
                      | succ n ih_680 =>
                        intro z_649 tz_649 ocz_649 w_679 m_681
                        have f_682 : 0 ≤ (gI z_649 38).toInt ∧ (gI z_649 38).toInt ≤ 300 := tz_649.1 38
                        refine hK_677 z_649 ?_
                        refine ⟨fun c_650 => ?_, fun c_650 => ?_⟩
                        · skip
                          have i_683 := i_ne rfl (show (2 : Int32).toInt = 2 by decide) c_650
                          exact hk z_649 tz_649 ocz_649 (by omega)
                        · skip
                          have i_684 := i_eq rfl (show (2 : Int32).toInt = 2 by decide) c_650
                          refine ⟨fun c_651 => ?_, fun c_651 => ?_⟩
                          · skip
                            have f_685 : 0 ≤ (gI z_649 36).toInt ∧ (gI z_649 36).toInt ≤ 300 := tz_649.1 36
                            have q_686 := (ocz_649.fi 36 (by decide))
                            have i_687 := i_le rfl rfl c_651
                            exact hk z_649 tz_649 ocz_649 (by omega)
                          · skip
                            have f_688 : 0 ≤ (gI z_649 36).toInt ∧ (gI z_649 36).toInt ≤ 300 := tz_649.1 36
                            have q_689 := (ocz_649.fi 36 (by decide))
                            have i_690 := i_nle rfl rfl c_651
                            refine ⟨vin rfl (by omega) (by omega), ?_⟩
                            have q_691 := (ocz_649.ff 25 (gI z_649 38).toNatClampNeg (by decide))
                            refine s_X9_isDigit (gF z_649 25 (gI z_649 38).toNatClampNeg) z_649 _ tz_649  (fun r_652 hp_692 => ?_)
                            rcases hp_692 with ⟨er_652, hp_692⟩ | ⟨er_652, hp_692⟩
                            · subst er_652
                              refine ⟨fun hc => absurd hc (by decide), fun _ => ?_⟩
                              intro K_654 hK_693
                              refine ⟨fun c_658 => ?_, fun c_658 => ?_⟩
                              · skip
                                refine ⟨vin rfl (by omega) (by omega), ?_⟩
                                refine hK_693 (((((gJ z_649 40) * (10 : Int64)) + (Int32.toInt64 (gF z_649 25 (gI z_649 38).toNatClampNeg))) - (48 : Int64))) ?_
                                intro z_694 ez_694
                                have tz_694 : TM z_694 := by rw [ez_694]; exact Ty_wJ tz_649
                                have oz_694 : Same [37, 38, 39] [] z z_694 := ocz_649.j ez_694
                                intro z_695 ez_695
                                have f_696 : 0 ≤ (gI z_694 38).toInt ∧ (gI z_694 38).toInt ≤ 300 := tz_694.1 38
                                have q_697 := (show (gI z_694 38).toInt = (gI z_649 38).toInt by rw [ez_694]; rfl)
                                have tz_695 : TM z_695 := by rw [ez_695]; exact Ty_wI tz_694 (show 0 ≤ ((gI z_694 38) + (1 : Int32)).toInt ∧ ((gI z_694 38) + (1 : Int32)).toInt ≤ 300 from by rw [(a_add rfl (show (1 : Int32).toInt = 1 by decide) (by omega) (by omega))]; omega)
                                have oz_695 : Same [37, 38, 39] [] z z_695 := oz_694.i (by decide) ez_695
                                have f_698 : 0 ≤ (gI z_695 38).toInt ∧ (gI z_695 38).toInt ≤ 300 := tz_695.1 38
                                have q_699 := (show (gI z_695 38).toInt = ((gI z_694 38) + (1 : Int32)).toInt by rw [ez_695]; rfl)
                                have q_700 : ((gI z_694 38) + (1 : Int32)).toInt = ((gI z_694 38).toInt + (1)) := (a_add rfl (show (1 : Int32).toInt = 1 by decide) (by omega) (by omega))
                                exact ih_680  z_695 tz_695 oz_695 (by omega) (by omega)
                              · skip
                                refine hK_693 ((gJ z_649 40)) ?_
                                intro z_701 ez_701
                                have tz_701 : TM z_701 := by rw [ez_701]; exact Ty_wJ tz_649
                                have oz_701 : Same [37, 38, 39] [] z z_701 := ocz_649.j ez_701
                                intro z_702 ez_702
                                have f_703 : 0 ≤ (gI z_701 38).toInt ∧ (gI z_701 38).toInt ≤ 300 := tz_701.1 38
                                have q_704 := (show (gI z_701 38).toInt = (gI z_649 38).toInt by rw [ez_701]; rfl)
                                have tz_702 : TM z_702 := by rw [ez_702]; exact Ty_wI tz_701 (show 0 ≤ ((gI z_701 38) + (1 : Int32)).toInt ∧ ((gI z_701 38) + (1 : Int32)).toInt ≤ 300 from by rw [(a_add rfl (show (1 : Int32).toInt = 1 by decide) (by omega) (by omega))]; omega)
                                have oz_702 : Same [37, 38, 39] [] z z_702 := oz_701.i (by decide) ez_702
                                have f_705 : 0 ≤ (gI z_702 38).toInt ∧ (gI z_702 38).toInt ≤ 300 := tz_702.1 38
                                have q_706 := (show (gI z_702 38).toInt = ((gI z_701 38) + (1 : Int32)).toInt by rw [ez_702]; rfl)
                                have q_707 : ((gI z_701 38) + (1 : Int32)).toInt = ((gI z_701 38).toInt + (1)) := (a_add rfl (show (1 : Int32).toInt = 1 by decide) (by omega) (by omega))
                                exact ih_680  z_702 tz_702 oz_702 (by omega) (by omega)
                            · subst er_652
                              refine ⟨fun _ => ?_, fun hc => absurd (show ((0 : Int32)) = ((0 : Int32)) by decide) hc⟩
                              exact hk z_649 tz_649 ocz_649 (by omega)
                    refine ⟨fun c_659 => ?_, fun c_659 => ?_⟩
                    · skip
                      have i_708 := i_ne rfl (show (1 : Int32).toInt = 1 by decide) c_659
                      exact L_678 (((gI z 36).toInt - (gI z_647 38).toInt).toNat + 1)  z_647 tz_647 ocz_647 (by omega) (by omega)
                    · skip
                      have i_709 := i_eq rfl (show (1 : Int32).toInt = 1 by decide) c_659
                      refine ⟨fun c_660 => ?_, fun c_660 => ?_⟩
                      · skip
                        have f_710 : 0 ≤ (gI z_647 36).toInt ∧ (gI z_647 36).toInt ≤ 300 := tz_647.1 36
                        have q_711 := (ocz_647.fi 36 (by decide))
                        have i_712 := i_le rfl rfl c_660
                        exact L_678 (((gI z 36).toInt - (gI z_647 38).toInt).toNat + 1)  z_647 tz_647 ocz_647 (by omega) (by omega)
                      · skip
                        have f_713 : 0 ≤ (gI z_647 36).toInt ∧ (gI z_647 36).toInt ≤ 300 := tz_647.1 36
                        have q_714 := (ocz_647.fi 36 (by decide))
                        have i_715 := i_nle rfl rfl c_660
                        refine ⟨vin rfl (by omega) (by omega), ?_⟩
                        have q_716 := (ocz_647.ff 25 (gI z_647 38).toNatClampNeg (by decide))
                        refine s_X9_isSmall (gF z_647 25 (gI z_647 38).toNatClampNeg) z_647 _ tz_647  (fun r_661 hp_717 => ?_)
                        rcases hp_717 with ⟨er_661, hp_717⟩ | ⟨er_661, hp_717⟩
                        · subst er_661
                          refine ⟨fun hc => absurd hc (by decide), fun _ => ?_⟩
                          intro K_663 hK_718
                          refine ⟨fun c_667 => ?_, fun c_667 => ?_⟩
                          · skip
                            have f_719 : 0 ≤ (gI z_647 37).toInt ∧ (gI z_647 37).toInt ≤ 300 := tz_647.1 37
                            have i_720 := i_le (show (7 : Int32).toInt = 7 by decide) (a_sub rfl rfl (by omega) (by omega)) c_667
                            refine hK_718 ((-1 : Int64)) ?_
                            intro z_721 ez_721
                            have tz_721 : TM z_721 := by rw [ez_721]; exact Ty_wJ tz_647
                            have oz_721 : Same [37, 38, 39] [] z z_721 := ocz_647.j ez_721
                            intro z_722 ez_722
                            have f_723 : 0 ≤ (gI z_721 38).toInt ∧ (gI z_721 38).toInt ≤ 300 := tz_721.1 38
                            have q_724 := (show (gI z_721 38).toInt = (gI z_647 38).toInt by rw [ez_721]; rfl)
                            have tz_722 : TM z_722 := by rw [ez_722]; exact Ty_wI tz_721 (show 0 ≤ ((gI z_721 38) + (1 : Int32)).toInt ∧ ((gI z_721 38) + (1 : Int32)).toInt ≤ 300 from by rw [(a_add rfl (show (1 : Int32).toInt = 1 by decide) (by omega) (by omega))]; omega)
                            have oz_722 : Same [37, 38, 39] [] z z_722 := oz_721.i (by decide) ez_722
                            have f_725 : 0 ≤ (gI z_722 38).toInt ∧ (gI z_722 38).toInt ≤ 300 := tz_722.1 38
                            have q_726 := (show (gI z_722 38).toInt = ((gI z_721 38) + (1 : Int32)).toInt by rw [ez_722]; rfl)
                            have q_727 : ((gI z_721 38) + (1 : Int32)).toInt = ((gI z_721 38).toInt + (1)) := (a_add rfl (show (1 : Int32).toInt = 1 by decide) (by omega) (by omega))
                            exact ih_674  z_722 tz_722 oz_722 (by omega) (by omega)
                          · skip
                            have f_728 : 0 ≤ (gI z_647 37).toInt ∧ (gI z_647 37).toInt ≤ 300 := tz_647.1 37
                            have i_729 := i_nle (show (7 : Int32).toInt = 7 by decide) (a_sub rfl rfl (by omega) (by omega)) c_667
                            refine ⟨vin rfl (by omega) (by omega), ?_⟩
                            refine hK_718 (((((gJ z_647 40) * (32 : Int64)) + (Int32.toInt64 (gF z_647 25 (gI z_647 38).toNatClampNeg))) - (96 : Int64))) ?_
                            intro z_730 ez_730
                            have tz_730 : TM z_730 := by rw [ez_730]; exact Ty_wJ tz_647
                            have oz_730 : Same [37, 38, 39] [] z z_730 := ocz_647.j ez_730
                            intro z_731 ez_731
                            have f_732 : 0 ≤ (gI z_730 38).toInt ∧ (gI z_730 38).toInt ≤ 300 := tz_730.1 38
                            have q_733 := (show (gI z_730 38).toInt = (gI z_647 38).toInt by rw [ez_730]; rfl)
                            have tz_731 : TM z_731 := by rw [ez_731]; exact Ty_wI tz_730 (show 0 ≤ ((gI z_730 38) + (1 : Int32)).toInt ∧ ((gI z_730 38) + (1 : Int32)).toInt ≤ 300 from by rw [(a_add rfl (show (1 : Int32).toInt = 1 by decide) (by omega) (by omega))]; omega)
                            have oz_731 : Same [37, 38, 39] [] z z_731 := oz_730.i (by decide) ez_731
                            have f_734 : 0 ≤ (gI z_731 38).toInt ∧ (gI z_731 38).toInt ≤ 300 := tz_731.1 38
                            have q_735 := (show (gI z_731 38).toInt = ((gI z_730 38) + (1 : Int32)).toInt by rw [ez_731]; rfl)
                            have q_736 : ((gI z_730 38) + (1 : Int32)).toInt = ((gI z_730 38).toInt + (1)) := (a_add rfl (show (1 : Int32).toInt = 1 by decide) (by omega) (by omega))
                            exact ih_674  z_731 tz_731 oz_731 (by omega) (by omega)
                        · subst er_661
                          refine ⟨fun _ => ?_, fun hc => absurd (show ((0 : Int32)) = ((0 : Int32)) by decide) hc⟩
                          exact L_678 (((gI z 36).toInt - (gI z_647 38).toInt).toNat + 1)  z_647 tz_647 ocz_647 (by omega) (by omega)
                refine ⟨fun c_668 => ?_, fun c_668 => ?_⟩
                · skip
                  have q_737 := (show (gI z_645 39).toInt = (2 : Int32).toInt by rw [ez_645]; rfl)
                  have q_738 : (2 : Int32).toInt = (2) := (show (2 : Int32).toInt = 2 by decide)
                  have i_739 := i_ne rfl (show (3 : Int32).toInt = 3 by decide) c_668
                  have f_740 : 0 ≤ (gI z_645 38).toInt ∧ (gI z_645 38).toInt ≤ 300 := tz_645.1 38
                  have q_741 := (((show (gI z_645 38).toInt = (gI z_495 38).toInt by rw [ez_645]; rfl)).trans (show (gI z_495 38).toInt = (gI z_494 38).toInt by rw [ez_495]; rfl)).trans (show (gI z_494 38).toInt = (gI z2 37).toInt by rw [ez_494]; rfl)
                  exact L_672 (((gI z 36).toInt - (gI z_645 38).toInt).toNat + 1)  z_645 tz_645 oz_645 (by omega) (by omega)
                · skip
                  have q_742 := (show (gI z_645 39).toInt = (2 : Int32).toInt by rw [ez_645]; rfl)
                  have q_743 : (2 : Int32).toInt = (2) := (show (2 : Int32).toInt = 2 by decide)
                  have i_744 := i_eq rfl (show (3 : Int32).toInt = 3 by decide) c_668
                  have f_745 : 0 ≤ (gI z_645 37).toInt ∧ (gI z_645 37).toInt ≤ 300 := tz_645.1 37
                  have q_746 := (((show (gI z_645 37).toInt = (gI z_495 37).toInt by rw [ez_645]; rfl)).trans (show (gI z_495 37).toInt = (gI z_494 37).toInt by rw [ez_495]; rfl)).trans (show (gI z_494 37).toInt = (gI z2 37).toInt by rw [ez_494]; rfl)
                  refine ⟨vin rfl (by omega) (by omega), ?_⟩
                  intro z_669 ez_669
                  have tz_669 : TM z_669 := by rw [ez_669]; exact Ty_wJ tz_645
                  have oz_669 : Same [37, 38, 39] [] z z_669 := oz_645.j ez_669
                  intro z_670 ez_670
                  have f_747 : 0 ≤ (gI z_669 38).toInt ∧ (gI z_669 38).toInt ≤ 300 := tz_669.1 38
                  have q_748 := ((((show (gI z_669 38).toInt = (gI z_645 38).toInt by rw [ez_669]; rfl)).trans (show (gI z_645 38).toInt = (gI z_495 38).toInt by rw [ez_645]; rfl)).trans (show (gI z_495 38).toInt = (gI z_494 38).toInt by rw [ez_495]; rfl)).trans (show (gI z_494 38).toInt = (gI z2 37).toInt by rw [ez_494]; rfl)
                  have tz_670 : TM z_670 := by rw [ez_670]; exact Ty_wI tz_669 (show 0 ≤ ((gI z_669 38) + (1 : Int32)).toInt ∧ ((gI z_669 38) + (1 : Int32)).toInt ≤ 300 from by rw [(a_add rfl (show (1 : Int32).toInt = 1 by decide) (by omega) (by omega))]; omega)
                  have oz_670 : Same [37, 38, 39] [] z z_670 := oz_669.i (by decide) ez_670
                  have f_749 : 0 ≤ (gI z_670 38).toInt ∧ (gI z_670 38).toInt ≤ 300 := tz_670.1 38
                  have q_750 := (show (gI z_670 38).toInt = ((gI z_669 38) + (1 : Int32)).toInt by rw [ez_670]; rfl)
                  have q_751 : ((gI z_669 38) + (1 : Int32)).toInt = ((gI z_669 38).toInt + (1)) := (a_add rfl (show (1 : Int32).toInt = 1 by decide) (by omega) (by omega))
                  exact L_672 (((gI z 36).toInt - (gI z_670 38).toInt).toNat + 1)  z_670 tz_670 oz_670 (by omega) (by omega)
              · subst er_527
                refine ⟨fun _ => ?_, fun hc => absurd (show ((0 : Int32)) = ((0 : Int32)) by decide) hc⟩
                refine hK_529 ((3 : Int32)) ?_
                intro z_752 ez_752
                have tz_752 : TM z_752 := by rw [ez_752]; exact Ty_wI tz_495 trivial
                have oz_752 : Same [37, 38, 39] [] z z_752 := oz_495.i (by decide) ez_752
                intro K_753 hK_778
                have L_779 : ∀ (n : Nat)  (z_754 : St), TM z_754 → Same [37, 38, 39] [] z z_754 → ((gI z_754 38).toInt ≤ (gI z 36).toInt) → ((gI z 36).toInt - (gI z_754 38).toInt).toNat < n → K_753 z_754 := by
                  intro n
                  induction n with
                  | zero => intro z_754 tz_754 ocz_754 w_780 m_782; omega
                  | succ n ih_781 =>
                    intro z_754 tz_754 ocz_754 w_780 m_782
                    have f_783 : 0 ≤ (gI z_754 38).toInt ∧ (gI z_754 38).toInt ≤ 300 := tz_754.1 38
                    refine hK_778 z_754 ?_
                    intro K_755 hK_784
                    have L_785 : ∀ (n : Nat)  (z_756 : St), TM z_756 → Same [37, 38, 39] [] z z_756 → ((gI z_756 38).toInt ≤ (gI z 36).toInt) → ((gI z 36).toInt - (gI z_756 38).toInt).toNat < n → K_755 z_756 := by
                      intro n
                      induction n with
                      | zero => intro z_756 tz_756 ocz_756 w_786 m_788; omega
                      | succ n ih_787 =>
                        intro z_756 tz_756 ocz_756 w_786 m_788
                        have f_789 : 0 ≤ (gI z_756 38).toInt ∧ (gI z_756 38).toInt ≤ 300 := tz_756.1 38
                        refine hK_784 z_756 ?_
                        refine ⟨fun c_757 => ?_, fun c_757 => ?_⟩
                        · skip
                          have i_790 := i_ne rfl (show (2 : Int32).toInt = 2 by decide) c_757
                          exact hk z_756 tz_756 ocz_756 (by omega)
                        · skip
                          have i_791 := i_eq rfl (show (2 : Int32).toInt = 2 by decide) c_757
                          refine ⟨fun c_758 => ?_, fun c_758 => ?_⟩
                          · skip
                            have f_792 : 0 ≤ (gI z_756 36).toInt ∧ (gI z_756 36).toInt ≤ 300 := tz_756.1 36
                            have q_793 := (ocz_756.fi 36 (by decide))
                            have i_794 := i_le rfl rfl c_758
                            exact hk z_756 tz_756 ocz_756 (by omega)
                          · skip
                            have f_795 : 0 ≤ (gI z_756 36).toInt ∧ (gI z_756 36).toInt ≤ 300 := tz_756.1 36
                            have q_796 := (ocz_756.fi 36 (by decide))
                            have i_797 := i_nle rfl rfl c_758
                            refine ⟨vin rfl (by omega) (by omega), ?_⟩
                            have q_798 := (ocz_756.ff 25 (gI z_756 38).toNatClampNeg (by decide))
                            refine s_X9_isDigit (gF z_756 25 (gI z_756 38).toNatClampNeg) z_756 _ tz_756  (fun r_759 hp_799 => ?_)
                            rcases hp_799 with ⟨er_759, hp_799⟩ | ⟨er_759, hp_799⟩
                            · subst er_759
                              refine ⟨fun hc => absurd hc (by decide), fun _ => ?_⟩
                              intro K_761 hK_800
                              refine ⟨fun c_765 => ?_, fun c_765 => ?_⟩
                              · skip
                                refine ⟨vin rfl (by omega) (by omega), ?_⟩
                                refine hK_800 (((((gJ z_756 40) * (10 : Int64)) + (Int32.toInt64 (gF z_756 25 (gI z_756 38).toNatClampNeg))) - (48 : Int64))) ?_
                                intro z_801 ez_801
                                have tz_801 : TM z_801 := by rw [ez_801]; exact Ty_wJ tz_756
                                have oz_801 : Same [37, 38, 39] [] z z_801 := ocz_756.j ez_801
                                intro z_802 ez_802
                                have f_803 : 0 ≤ (gI z_801 38).toInt ∧ (gI z_801 38).toInt ≤ 300 := tz_801.1 38
                                have q_804 := (show (gI z_801 38).toInt = (gI z_756 38).toInt by rw [ez_801]; rfl)
                                have tz_802 : TM z_802 := by rw [ez_802]; exact Ty_wI tz_801 (show 0 ≤ ((gI z_801 38) + (1 : Int32)).toInt ∧ ((gI z_801 38) + (1 : Int32)).toInt ≤ 300 from by rw [(a_add rfl (show (1 : Int32).toInt = 1 by decide) (by omega) (by omega))]; omega)
                                have oz_802 : Same [37, 38, 39] [] z z_802 := oz_801.i (by decide) ez_802
                                have f_805 : 0 ≤ (gI z_802 38).toInt ∧ (gI z_802 38).toInt ≤ 300 := tz_802.1 38
                                have q_806 := (show (gI z_802 38).toInt = ((gI z_801 38) + (1 : Int32)).toInt by rw [ez_802]; rfl)
                                have q_807 : ((gI z_801 38) + (1 : Int32)).toInt = ((gI z_801 38).toInt + (1)) := (a_add rfl (show (1 : Int32).toInt = 1 by decide) (by omega) (by omega))
                                exact ih_787  z_802 tz_802 oz_802 (by omega) (by omega)
                              · skip
                                refine hK_800 ((gJ z_756 40)) ?_
                                intro z_808 ez_808
                                have tz_808 : TM z_808 := by rw [ez_808]; exact Ty_wJ tz_756
                                have oz_808 : Same [37, 38, 39] [] z z_808 := ocz_756.j ez_808
                                intro z_809 ez_809
                                have f_810 : 0 ≤ (gI z_808 38).toInt ∧ (gI z_808 38).toInt ≤ 300 := tz_808.1 38
                                have q_811 := (show (gI z_808 38).toInt = (gI z_756 38).toInt by rw [ez_808]; rfl)
                                have tz_809 : TM z_809 := by rw [ez_809]; exact Ty_wI tz_808 (show 0 ≤ ((gI z_808 38) + (1 : Int32)).toInt ∧ ((gI z_808 38) + (1 : Int32)).toInt ≤ 300 from by rw [(a_add rfl (show (1 : Int32).toInt = 1 by decide) (by omega) (by omega))]; omega)
                                have oz_809 : Same [37, 38, 39] [] z z_809 := oz_808.i (by decide) ez_809
                                have f_812 : 0 ≤ (gI z_809 38).toInt ∧ (gI z_809 38).toInt ≤ 300 := tz_809.1 38
                                have q_813 := (show (gI z_809 38).toInt = ((gI z_808 38) + (1 : Int32)).toInt by rw [ez_809]; rfl)
                                have q_814 : ((gI z_808 38) + (1 : Int32)).toInt = ((gI z_808 38).toInt + (1)) := (a_add rfl (show (1 : Int32).toInt = 1 by decide) (by omega) (by omega))
                                exact ih_787  z_809 tz_809 oz_809 (by omega) (by omega)
                            · subst er_759
                              refine ⟨fun _ => ?_, fun hc => absurd (show ((0 : Int32)) = ((0 : Int32)) by decide) hc⟩
                              exact hk z_756 tz_756 ocz_756 (by omega)
                    refine ⟨fun c_766 => ?_, fun c_766 => ?_⟩
                    · skip
                      have i_815 := i_ne rfl (show (1 : Int32).toInt = 1 by decide) c_766
                      exact L_785 (((gI z 36).toInt - (gI z_754 38).toInt).toNat + 1)  z_754 tz_754 ocz_754 (by omega) (by omega)
                    · skip
                      have i_816 := i_eq rfl (show (1 : Int32).toInt = 1 by decide) c_766
                      refine ⟨fun c_767 => ?_, fun c_767 => ?_⟩
                      · skip
                        have f_817 : 0 ≤ (gI z_754 36).toInt ∧ (gI z_754 36).toInt ≤ 300 := tz_754.1 36
                        have q_818 := (ocz_754.fi 36 (by decide))
                        have i_819 := i_le rfl rfl c_767
                        exact L_785 (((gI z 36).toInt - (gI z_754 38).toInt).toNat + 1)  z_754 tz_754 ocz_754 (by omega) (by omega)
                      · skip
                        have f_820 : 0 ≤ (gI z_754 36).toInt ∧ (gI z_754 36).toInt ≤ 300 := tz_754.1 36
                        have q_821 := (ocz_754.fi 36 (by decide))
                        have i_822 := i_nle rfl rfl c_767
                        refine ⟨vin rfl (by omega) (by omega), ?_⟩
                        have q_823 := (ocz_754.ff 25 (gI z_754 38).toNatClampNeg (by decide))
                        refine s_X9_isSmall (gF z_754 25 (gI z_754 38).toNatClampNeg) z_754 _ tz_754  (fun r_768 hp_824 => ?_)
                        rcases hp_824 with ⟨er_768, hp_824⟩ | ⟨er_768, hp_824⟩
                        · subst er_768
                          refine ⟨fun hc => absurd hc (by decide), fun _ => ?_⟩
                          intro K_770 hK_825
                          refine ⟨fun c_774 => ?_, fun c_774 => ?_⟩
                          · skip
                            have f_826 : 0 ≤ (gI z_754 37).toInt ∧ (gI z_754 37).toInt ≤ 300 := tz_754.1 37
                            have i_827 := i_le (show (7 : Int32).toInt = 7 by decide) (a_sub rfl rfl (by omega) (by omega)) c_774
                            refine hK_825 ((-1 : Int64)) ?_
                            intro z_828 ez_828
                            have tz_828 : TM z_828 := by rw [ez_828]; exact Ty_wJ tz_754
                            have oz_828 : Same [37, 38, 39] [] z z_828 := ocz_754.j ez_828
                            intro z_829 ez_829
                            have f_830 : 0 ≤ (gI z_828 38).toInt ∧ (gI z_828 38).toInt ≤ 300 := tz_828.1 38
                            have q_831 := (show (gI z_828 38).toInt = (gI z_754 38).toInt by rw [ez_828]; rfl)
                            have tz_829 : TM z_829 := by rw [ez_829]; exact Ty_wI tz_828 (show 0 ≤ ((gI z_828 38) + (1 : Int32)).toInt ∧ ((gI z_828 38) + (1 : Int32)).toInt ≤ 300 from by rw [(a_add rfl (show (1 : Int32).toInt = 1 by decide) (by omega) (by omega))]; omega)
                            have oz_829 : Same [37, 38, 39] [] z z_829 := oz_828.i (by decide) ez_829
                            have f_832 : 0 ≤ (gI z_829 38).toInt ∧ (gI z_829 38).toInt ≤ 300 := tz_829.1 38
                            have q_833 := (show (gI z_829 38).toInt = ((gI z_828 38) + (1 : Int32)).toInt by rw [ez_829]; rfl)
                            have q_834 : ((gI z_828 38) + (1 : Int32)).toInt = ((gI z_828 38).toInt + (1)) := (a_add rfl (show (1 : Int32).toInt = 1 by decide) (by omega) (by omega))
                            exact ih_781  z_829 tz_829 oz_829 (by omega) (by omega)
                          · skip
                            have f_835 : 0 ≤ (gI z_754 37).toInt ∧ (gI z_754 37).toInt ≤ 300 := tz_754.1 37
                            have i_836 := i_nle (show (7 : Int32).toInt = 7 by decide) (a_sub rfl rfl (by omega) (by omega)) c_774
                            refine ⟨vin rfl (by omega) (by omega), ?_⟩
                            refine hK_825 (((((gJ z_754 40) * (32 : Int64)) + (Int32.toInt64 (gF z_754 25 (gI z_754 38).toNatClampNeg))) - (96 : Int64))) ?_
                            intro z_837 ez_837
                            have tz_837 : TM z_837 := by rw [ez_837]; exact Ty_wJ tz_754
                            have oz_837 : Same [37, 38, 39] [] z z_837 := ocz_754.j ez_837
                            intro z_838 ez_838
                            have f_839 : 0 ≤ (gI z_837 38).toInt ∧ (gI z_837 38).toInt ≤ 300 := tz_837.1 38
                            have q_840 := (show (gI z_837 38).toInt = (gI z_754 38).toInt by rw [ez_837]; rfl)
                            have tz_838 : TM z_838 := by rw [ez_838]; exact Ty_wI tz_837 (show 0 ≤ ((gI z_837 38) + (1 : Int32)).toInt ∧ ((gI z_837 38) + (1 : Int32)).toInt ≤ 300 from by rw [(a_add rfl (show (1 : Int32).toInt = 1 by decide) (by omega) (by omega))]; omega)
                            have oz_838 : Same [37, 38, 39] [] z z_838 := oz_837.i (by decide) ez_838
                            have f_841 : 0 ≤ (gI z_838 38).toInt ∧ (gI z_838 38).toInt ≤ 300 := tz_838.1 38
                            have q_842 := (show (gI z_838 38).toInt = ((gI z_837 38) + (1 : Int32)).toInt by rw [ez_838]; rfl)
                            have q_843 : ((gI z_837 38) + (1 : Int32)).toInt = ((gI z_837 38).toInt + (1)) := (a_add rfl (show (1 : Int32).toInt = 1 by decide) (by omega) (by omega))
                            exact ih_781  z_838 tz_838 oz_838 (by omega) (by omega)
                        · subst er_768
                          refine ⟨fun _ => ?_, fun hc => absurd (show ((0 : Int32)) = ((0 : Int32)) by decide) hc⟩
                          exact L_785 (((gI z 36).toInt - (gI z_754 38).toInt).toNat + 1)  z_754 tz_754 ocz_754 (by omega) (by omega)
                refine ⟨fun c_775 => ?_, fun c_775 => ?_⟩
                · skip
                  have q_844 := (show (gI z_752 39).toInt = (3 : Int32).toInt by rw [ez_752]; rfl)
                  have q_845 : (3 : Int32).toInt = (3) := (show (3 : Int32).toInt = 3 by decide)
                  have i_846 := i_ne rfl (show (3 : Int32).toInt = 3 by decide) c_775
                  have f_847 : 0 ≤ (gI z_752 38).toInt ∧ (gI z_752 38).toInt ≤ 300 := tz_752.1 38
                  have q_848 := (((show (gI z_752 38).toInt = (gI z_495 38).toInt by rw [ez_752]; rfl)).trans (show (gI z_495 38).toInt = (gI z_494 38).toInt by rw [ez_495]; rfl)).trans (show (gI z_494 38).toInt = (gI z2 37).toInt by rw [ez_494]; rfl)
                  exact L_779 (((gI z 36).toInt - (gI z_752 38).toInt).toNat + 1)  z_752 tz_752 oz_752 (by omega) (by omega)
                · skip
                  have q_849 := (show (gI z_752 39).toInt = (3 : Int32).toInt by rw [ez_752]; rfl)
                  have q_850 : (3 : Int32).toInt = (3) := (show (3 : Int32).toInt = 3 by decide)
                  have i_851 := i_eq rfl (show (3 : Int32).toInt = 3 by decide) c_775
                  have f_852 : 0 ≤ (gI z_752 37).toInt ∧ (gI z_752 37).toInt ≤ 300 := tz_752.1 37
                  have q_853 := (((show (gI z_752 37).toInt = (gI z_495 37).toInt by rw [ez_752]; rfl)).trans (show (gI z_495 37).toInt = (gI z_494 37).toInt by rw [ez_495]; rfl)).trans (show (gI z_494 37).toInt = (gI z2 37).toInt by rw [ez_494]; rfl)
                  refine ⟨vin rfl (by omega) (by omega), ?_⟩
                  intro z_776 ez_776
                  have tz_776 : TM z_776 := by rw [ez_776]; exact Ty_wJ tz_752
                  have oz_776 : Same [37, 38, 39] [] z z_776 := oz_752.j ez_776
                  intro z_777 ez_777
                  have f_854 : 0 ≤ (gI z_776 38).toInt ∧ (gI z_776 38).toInt ≤ 300 := tz_776.1 38
                  have q_855 := ((((show (gI z_776 38).toInt = (gI z_752 38).toInt by rw [ez_776]; rfl)).trans (show (gI z_752 38).toInt = (gI z_495 38).toInt by rw [ez_752]; rfl)).trans (show (gI z_495 38).toInt = (gI z_494 38).toInt by rw [ez_495]; rfl)).trans (show (gI z_494 38).toInt = (gI z2 37).toInt by rw [ez_494]; rfl)
                  have tz_777 : TM z_777 := by rw [ez_777]; exact Ty_wI tz_776 (show 0 ≤ ((gI z_776 38) + (1 : Int32)).toInt ∧ ((gI z_776 38) + (1 : Int32)).toInt ≤ 300 from by rw [(a_add rfl (show (1 : Int32).toInt = 1 by decide) (by omega) (by omega))]; omega)
                  have oz_777 : Same [37, 38, 39] [] z z_777 := oz_776.i (by decide) ez_777
                  have f_856 : 0 ≤ (gI z_777 38).toInt ∧ (gI z_777 38).toInt ≤ 300 := tz_777.1 38
                  have q_857 := (show (gI z_777 38).toInt = ((gI z_776 38) + (1 : Int32)).toInt by rw [ez_777]; rfl)
                  have q_858 : ((gI z_776 38) + (1 : Int32)).toInt = ((gI z_776 38).toInt + (1)) := (a_add rfl (show (1 : Int32).toInt = 1 by decide) (by omega) (by omega))
                  exact L_779 (((gI z 36).toInt - (gI z_777 38).toInt).toNat + 1)  z_777 tz_777 oz_777 (by omega) (by omega)
          · skip
            have f_859 : 0 ≤ (gI z_495 37).toInt ∧ (gI z_495 37).toInt ≤ 300 := tz_495.1 37
            have q_860 := ((show (gI z_495 37).toInt = (gI z_494 37).toInt by rw [ez_495]; rfl)).trans (show (gI z_494 37).toInt = (gI z2 37).toInt by rw [ez_494]; rfl)
            have f_861 : 0 ≤ (gI z_495 36).toInt ∧ (gI z_495 36).toInt ≤ 300 := tz_495.1 36
            have q_862 := (((show (gI z_495 36).toInt = (gI z_494 36).toInt by rw [ez_495]; rfl)).trans (show (gI z_494 36).toInt = (gI z2 36).toInt by rw [ez_494]; rfl)).trans (ocz2.fi 36 (by decide))
            have i_863 := i_eq rfl rfl c_524
            refine hK_529 ((0 : Int32)) ?_
            intro z_864 ez_864
            have tz_864 : TM z_864 := by rw [ez_864]; exact Ty_wI tz_495 trivial
            have oz_864 : Same [37, 38, 39] [] z z_864 := oz_495.i (by decide) ez_864
            intro K_865 hK_890
            have L_891 : ∀ (n : Nat)  (z_866 : St), TM z_866 → Same [37, 38, 39] [] z z_866 → ((gI z_866 38).toInt ≤ (gI z 36).toInt) → ((gI z 36).toInt - (gI z_866 38).toInt).toNat < n → K_865 z_866 := by
              intro n
              induction n with
              | zero => intro z_866 tz_866 ocz_866 w_892 m_894; omega
              | succ n ih_893 =>
                intro z_866 tz_866 ocz_866 w_892 m_894
                have f_895 : 0 ≤ (gI z_866 38).toInt ∧ (gI z_866 38).toInt ≤ 300 := tz_866.1 38
                refine hK_890 z_866 ?_
                intro K_867 hK_896
                have L_897 : ∀ (n : Nat)  (z_868 : St), TM z_868 → Same [37, 38, 39] [] z z_868 → ((gI z_868 38).toInt ≤ (gI z 36).toInt) → ((gI z 36).toInt - (gI z_868 38).toInt).toNat < n → K_867 z_868 := by
                  intro n
                  induction n with
                  | zero => intro z_868 tz_868 ocz_868 w_898 m_900; omega
                  | succ n ih_899 =>
                    intro z_868 tz_868 ocz_868 w_898 m_900
                    have f_901 : 0 ≤ (gI z_868 38).toInt ∧ (gI z_868 38).toInt ≤ 300 := tz_868.1 38
                    refine hK_896 z_868 ?_
                    refine ⟨fun c_869 => ?_, fun c_869 => ?_⟩
                    · skip
                      have i_902 := i_ne rfl (show (2 : Int32).toInt = 2 by decide) c_869
                      exact hk z_868 tz_868 ocz_868 (by omega)
                    · skip
                      have i_903 := i_eq rfl (show (2 : Int32).toInt = 2 by decide) c_869
                      refine ⟨fun c_870 => ?_, fun c_870 => ?_⟩
                      · skip
                        have f_904 : 0 ≤ (gI z_868 36).toInt ∧ (gI z_868 36).toInt ≤ 300 := tz_868.1 36
                        have q_905 := (ocz_868.fi 36 (by decide))
                        have i_906 := i_le rfl rfl c_870
                        exact hk z_868 tz_868 ocz_868 (by omega)
                      · skip
                        have f_907 : 0 ≤ (gI z_868 36).toInt ∧ (gI z_868 36).toInt ≤ 300 := tz_868.1 36
                        have q_908 := (ocz_868.fi 36 (by decide))
                        have i_909 := i_nle rfl rfl c_870
                        refine ⟨vin rfl (by omega) (by omega), ?_⟩
                        have q_910 := (ocz_868.ff 25 (gI z_868 38).toNatClampNeg (by decide))
                        refine s_X9_isDigit (gF z_868 25 (gI z_868 38).toNatClampNeg) z_868 _ tz_868  (fun r_871 hp_911 => ?_)
                        rcases hp_911 with ⟨er_871, hp_911⟩ | ⟨er_871, hp_911⟩
                        · subst er_871
                          refine ⟨fun hc => absurd hc (by decide), fun _ => ?_⟩
                          intro K_873 hK_912
                          refine ⟨fun c_877 => ?_, fun c_877 => ?_⟩
                          · skip
                            refine ⟨vin rfl (by omega) (by omega), ?_⟩
                            refine hK_912 (((((gJ z_868 40) * (10 : Int64)) + (Int32.toInt64 (gF z_868 25 (gI z_868 38).toNatClampNeg))) - (48 : Int64))) ?_
                            intro z_913 ez_913
                            have tz_913 : TM z_913 := by rw [ez_913]; exact Ty_wJ tz_868
                            have oz_913 : Same [37, 38, 39] [] z z_913 := ocz_868.j ez_913
                            intro z_914 ez_914
                            have f_915 : 0 ≤ (gI z_913 38).toInt ∧ (gI z_913 38).toInt ≤ 300 := tz_913.1 38
                            have q_916 := (show (gI z_913 38).toInt = (gI z_868 38).toInt by rw [ez_913]; rfl)
                            have tz_914 : TM z_914 := by rw [ez_914]; exact Ty_wI tz_913 (show 0 ≤ ((gI z_913 38) + (1 : Int32)).toInt ∧ ((gI z_913 38) + (1 : Int32)).toInt ≤ 300 from by rw [(a_add rfl (show (1 : Int32).toInt = 1 by decide) (by omega) (by omega))]; omega)
                            have oz_914 : Same [37, 38, 39] [] z z_914 := oz_913.i (by decide) ez_914
                            have f_917 : 0 ≤ (gI z_914 38).toInt ∧ (gI z_914 38).toInt ≤ 300 := tz_914.1 38
                            have q_918 := (show (gI z_914 38).toInt = ((gI z_913 38) + (1 : Int32)).toInt by rw [ez_914]; rfl)
                            have q_919 : ((gI z_913 38) + (1 : Int32)).toInt = ((gI z_913 38).toInt + (1)) := (a_add rfl (show (1 : Int32).toInt = 1 by decide) (by omega) (by omega))
                            exact ih_899  z_914 tz_914 oz_914 (by omega) (by omega)
                          · skip
                            refine hK_912 ((gJ z_868 40)) ?_
                            intro z_920 ez_920
                            have tz_920 : TM z_920 := by rw [ez_920]; exact Ty_wJ tz_868
                            have oz_920 : Same [37, 38, 39] [] z z_920 := ocz_868.j ez_920
                            intro z_921 ez_921
                            have f_922 : 0 ≤ (gI z_920 38).toInt ∧ (gI z_920 38).toInt ≤ 300 := tz_920.1 38
                            have q_923 := (show (gI z_920 38).toInt = (gI z_868 38).toInt by rw [ez_920]; rfl)
                            have tz_921 : TM z_921 := by rw [ez_921]; exact Ty_wI tz_920 (show 0 ≤ ((gI z_920 38) + (1 : Int32)).toInt ∧ ((gI z_920 38) + (1 : Int32)).toInt ≤ 300 from by rw [(a_add rfl (show (1 : Int32).toInt = 1 by decide) (by omega) (by omega))]; omega)
                            have oz_921 : Same [37, 38, 39] [] z z_921 := oz_920.i (by decide) ez_921
                            have f_924 : 0 ≤ (gI z_921 38).toInt ∧ (gI z_921 38).toInt ≤ 300 := tz_921.1 38
                            have q_925 := (show (gI z_921 38).toInt = ((gI z_920 38) + (1 : Int32)).toInt by rw [ez_921]; rfl)
                            have q_926 : ((gI z_920 38) + (1 : Int32)).toInt = ((gI z_920 38).toInt + (1)) := (a_add rfl (show (1 : Int32).toInt = 1 by decide) (by omega) (by omega))
                            exact ih_899  z_921 tz_921 oz_921 (by omega) (by omega)
                        · subst er_871
                          refine ⟨fun _ => ?_, fun hc => absurd (show ((0 : Int32)) = ((0 : Int32)) by decide) hc⟩
                          exact hk z_868 tz_868 ocz_868 (by omega)
                refine ⟨fun c_878 => ?_, fun c_878 => ?_⟩
                · skip
                  have i_927 := i_ne rfl (show (1 : Int32).toInt = 1 by decide) c_878
                  exact L_897 (((gI z 36).toInt - (gI z_866 38).toInt).toNat + 1)  z_866 tz_866 ocz_866 (by omega) (by omega)
                · skip
                  have i_928 := i_eq rfl (show (1 : Int32).toInt = 1 by decide) c_878
                  refine ⟨fun c_879 => ?_, fun c_879 => ?_⟩
                  · skip
                    have f_929 : 0 ≤ (gI z_866 36).toInt ∧ (gI z_866 36).toInt ≤ 300 := tz_866.1 36
                    have q_930 := (ocz_866.fi 36 (by decide))
                    have i_931 := i_le rfl rfl c_879
                    exact L_897 (((gI z 36).toInt - (gI z_866 38).toInt).toNat + 1)  z_866 tz_866 ocz_866 (by omega) (by omega)
                  · skip
                    have f_932 : 0 ≤ (gI z_866 36).toInt ∧ (gI z_866 36).toInt ≤ 300 := tz_866.1 36
                    have q_933 := (ocz_866.fi 36 (by decide))
                    have i_934 := i_nle rfl rfl c_879
                    refine ⟨vin rfl (by omega) (by omega), ?_⟩
                    have q_935 := (ocz_866.ff 25 (gI z_866 38).toNatClampNeg (by decide))
                    refine s_X9_isSmall (gF z_866 25 (gI z_866 38).toNatClampNeg) z_866 _ tz_866  (fun r_880 hp_936 => ?_)
                    rcases hp_936 with ⟨er_880, hp_936⟩ | ⟨er_880, hp_936⟩
                    · subst er_880
                      refine ⟨fun hc => absurd hc (by decide), fun _ => ?_⟩
                      intro K_882 hK_937
                      refine ⟨fun c_886 => ?_, fun c_886 => ?_⟩
                      · skip
                        have f_938 : 0 ≤ (gI z_866 37).toInt ∧ (gI z_866 37).toInt ≤ 300 := tz_866.1 37
                        have i_939 := i_le (show (7 : Int32).toInt = 7 by decide) (a_sub rfl rfl (by omega) (by omega)) c_886
                        refine hK_937 ((-1 : Int64)) ?_
                        intro z_940 ez_940
                        have tz_940 : TM z_940 := by rw [ez_940]; exact Ty_wJ tz_866
                        have oz_940 : Same [37, 38, 39] [] z z_940 := ocz_866.j ez_940
                        intro z_941 ez_941
                        have f_942 : 0 ≤ (gI z_940 38).toInt ∧ (gI z_940 38).toInt ≤ 300 := tz_940.1 38
                        have q_943 := (show (gI z_940 38).toInt = (gI z_866 38).toInt by rw [ez_940]; rfl)
                        have tz_941 : TM z_941 := by rw [ez_941]; exact Ty_wI tz_940 (show 0 ≤ ((gI z_940 38) + (1 : Int32)).toInt ∧ ((gI z_940 38) + (1 : Int32)).toInt ≤ 300 from by rw [(a_add rfl (show (1 : Int32).toInt = 1 by decide) (by omega) (by omega))]; omega)
                        have oz_941 : Same [37, 38, 39] [] z z_941 := oz_940.i (by decide) ez_941
                        have f_944 : 0 ≤ (gI z_941 38).toInt ∧ (gI z_941 38).toInt ≤ 300 := tz_941.1 38
                        have q_945 := (show (gI z_941 38).toInt = ((gI z_940 38) + (1 : Int32)).toInt by rw [ez_941]; rfl)
                        have q_946 : ((gI z_940 38) + (1 : Int32)).toInt = ((gI z_940 38).toInt + (1)) := (a_add rfl (show (1 : Int32).toInt = 1 by decide) (by omega) (by omega))
                        exact ih_893  z_941 tz_941 oz_941 (by omega) (by omega)
                      · skip
                        have f_947 : 0 ≤ (gI z_866 37).toInt ∧ (gI z_866 37).toInt ≤ 300 := tz_866.1 37
                        have i_948 := i_nle (show (7 : Int32).toInt = 7 by decide) (a_sub rfl rfl (by omega) (by omega)) c_886
                        refine ⟨vin rfl (by omega) (by omega), ?_⟩
                        refine hK_937 (((((gJ z_866 40) * (32 : Int64)) + (Int32.toInt64 (gF z_866 25 (gI z_866 38).toNatClampNeg))) - (96 : Int64))) ?_
                        intro z_949 ez_949
                        have tz_949 : TM z_949 := by rw [ez_949]; exact Ty_wJ tz_866
                        have oz_949 : Same [37, 38, 39] [] z z_949 := ocz_866.j ez_949
                        intro z_950 ez_950
                        have f_951 : 0 ≤ (gI z_949 38).toInt ∧ (gI z_949 38).toInt ≤ 300 := tz_949.1 38
                        have q_952 := (show (gI z_949 38).toInt = (gI z_866 38).toInt by rw [ez_949]; rfl)
                        have tz_950 : TM z_950 := by rw [ez_950]; exact Ty_wI tz_949 (show 0 ≤ ((gI z_949 38) + (1 : Int32)).toInt ∧ ((gI z_949 38) + (1 : Int32)).toInt ≤ 300 from by rw [(a_add rfl (show (1 : Int32).toInt = 1 by decide) (by omega) (by omega))]; omega)
                        have oz_950 : Same [37, 38, 39] [] z z_950 := oz_949.i (by decide) ez_950
                        have f_953 : 0 ≤ (gI z_950 38).toInt ∧ (gI z_950 38).toInt ≤ 300 := tz_950.1 38
                        have q_954 := (show (gI z_950 38).toInt = ((gI z_949 38) + (1 : Int32)).toInt by rw [ez_950]; rfl)
                        have q_955 : ((gI z_949 38) + (1 : Int32)).toInt = ((gI z_949 38).toInt + (1)) := (a_add rfl (show (1 : Int32).toInt = 1 by decide) (by omega) (by omega))
                        exact ih_893  z_950 tz_950 oz_950 (by omega) (by omega)
                    · subst er_880
                      refine ⟨fun _ => ?_, fun hc => absurd (show ((0 : Int32)) = ((0 : Int32)) by decide) hc⟩
                      exact L_897 (((gI z 36).toInt - (gI z_866 38).toInt).toNat + 1)  z_866 tz_866 ocz_866 (by omega) (by omega)
            refine ⟨fun c_887 => ?_, fun c_887 => ?_⟩
            · skip
              have q_956 := (show (gI z_864 39).toInt = (0 : Int32).toInt by rw [ez_864]; rfl)
              have q_957 : (0 : Int32).toInt = (0) := (show (0 : Int32).toInt = 0 by decide)
              have i_958 := i_ne rfl (show (3 : Int32).toInt = 3 by decide) c_887
              have f_959 : 0 ≤ (gI z_864 38).toInt ∧ (gI z_864 38).toInt ≤ 300 := tz_864.1 38
              have q_960 := (((show (gI z_864 38).toInt = (gI z_495 38).toInt by rw [ez_864]; rfl)).trans (show (gI z_495 38).toInt = (gI z_494 38).toInt by rw [ez_495]; rfl)).trans (show (gI z_494 38).toInt = (gI z2 37).toInt by rw [ez_494]; rfl)
              exact L_891 (((gI z 36).toInt - (gI z_864 38).toInt).toNat + 1)  z_864 tz_864 oz_864 (by omega) (by omega)
            · skip
              have q_961 := (show (gI z_864 39).toInt = (0 : Int32).toInt by rw [ez_864]; rfl)
              have q_962 : (0 : Int32).toInt = (0) := (show (0 : Int32).toInt = 0 by decide)
              have i_963 := i_eq rfl (show (3 : Int32).toInt = 3 by decide) c_887
              have f_964 : 0 ≤ (gI z_864 37).toInt ∧ (gI z_864 37).toInt ≤ 300 := tz_864.1 37
              have q_965 := (((show (gI z_864 37).toInt = (gI z_495 37).toInt by rw [ez_864]; rfl)).trans (show (gI z_495 37).toInt = (gI z_494 37).toInt by rw [ez_495]; rfl)).trans (show (gI z_494 37).toInt = (gI z2 37).toInt by rw [ez_494]; rfl)
              refine ⟨vin rfl (by omega) (by omega), ?_⟩
              intro z_888 ez_888
              have tz_888 : TM z_888 := by rw [ez_888]; exact Ty_wJ tz_864
              have oz_888 : Same [37, 38, 39] [] z z_888 := oz_864.j ez_888
              intro z_889 ez_889
              have f_966 : 0 ≤ (gI z_888 38).toInt ∧ (gI z_888 38).toInt ≤ 300 := tz_888.1 38
              have q_967 := ((((show (gI z_888 38).toInt = (gI z_864 38).toInt by rw [ez_888]; rfl)).trans (show (gI z_864 38).toInt = (gI z_495 38).toInt by rw [ez_864]; rfl)).trans (show (gI z_495 38).toInt = (gI z_494 38).toInt by rw [ez_495]; rfl)).trans (show (gI z_494 38).toInt = (gI z2 37).toInt by rw [ez_494]; rfl)
              have tz_889 : TM z_889 := by rw [ez_889]; exact Ty_wI tz_888 (show 0 ≤ ((gI z_888 38) + (1 : Int32)).toInt ∧ ((gI z_888 38) + (1 : Int32)).toInt ≤ 300 from by rw [(a_add rfl (show (1 : Int32).toInt = 1 by decide) (by omega) (by omega))]; omega)
              have oz_889 : Same [37, 38, 39] [] z z_889 := oz_888.i (by decide) ez_889
              have f_968 : 0 ≤ (gI z_889 38).toInt ∧ (gI z_889 38).toInt ≤ 300 := tz_889.1 38
              have q_969 := (show (gI z_889 38).toInt = ((gI z_888 38) + (1 : Int32)).toInt by rw [ez_889]; rfl)
              have q_970 : ((gI z_888 38) + (1 : Int32)).toInt = ((gI z_888 38).toInt + (1)) := (a_add rfl (show (1 : Int32).toInt = 1 by decide) (by omega) (by omega))
              exact L_891 (((gI z 36).toInt - (gI z_889 38).toInt).toNat + 1)  z_889 tz_889 oz_889 (by omega) (by omega)
        · skip
          have q_971 := (ocz2.ff 25 (gI z2 37).toNatClampNeg (by decide))
          have i_972 := i_eq rfl (show (32 : Int32).toInt = 32 by decide) c44
          intro z45 ez45
          have tz45 : TM z45 := by rw [ez45]; exact Ty_wI tz2 (show 0 ≤ ((gI z2 37) + (1 : Int32)).toInt ∧ ((gI z2 37) + (1 : Int32)).toInt ≤ 300 from by rw [(a_add rfl (show (1 : Int32).toInt = 1 by decide) (by omega) (by omega))]; omega)
          have oz45 : Same [37, 38, 39] [] z z45 := ocz2.i (by decide) ez45
          have f_973 : 0 ≤ (gI z45 37).toInt ∧ (gI z45 37).toInt ≤ 300 := tz45.1 37
          have q_974 := (show (gI z45 37).toInt = ((gI z2 37) + (1 : Int32)).toInt by rw [ez45]; rfl)
          have q_975 : ((gI z2 37) + (1 : Int32)).toInt = ((gI z2 37).toInt + (1)) := (a_add rfl (show (1 : Int32).toInt = 1 by decide) (by omega) (by omega))
          exact ih_4  z45 tz45 oz45 (by omega) (by omega)
  intro z46 ez46
  have f_976 : 0 ≤ (gI z 38).toInt ∧ (gI z 38).toInt ≤ 300 := ht.1 38
  have tz46 : TM z46 := by rw [ez46]; exact Ty_wI ht (show 0 ≤ (gI z 38).toInt ∧ (gI z 38).toInt ≤ 300 from by omega)
  have oz46 : Same [37, 38, 39] [] z z46 := (Same.rf (z := z)).i (by decide) ez46
  have f_977 : 0 ≤ (gI z46 37).toInt ∧ (gI z46 37).toInt ≤ 300 := tz46.1 37
  have q_978 := (show (gI z46 37).toInt = (gI z 38).toInt by rw [ez46]; rfl)
  have f_979 : 0 ≤ (gI z 36).toInt ∧ (gI z 36).toInt ≤ 300 := ht.1 36
  exact L_2 (((gI z 36).toInt - (gI z46 37).toInt).toNat + 1)  z46 tz46 oz46 (by omega) (by omega)

