set_option maxHeartbeats 2000000 in
theorem s_X9_readRule  (z : St) (P : St → Prop) (ht : TM z) (h0 : (gI z 38).toInt ≤ (gI z 36).toInt) (hk : ∀ (z2 : St), TM z2 → Same [34, 37, 38, 39, 41, 42] [24] z z2 → ((gI z2 38).toInt ≤ (gI z 36).toInt ∧ ((gI z2 42).toInt = 1 ∨ (gI z2 34).toInt = (gI z 34).toInt + 1) ∧ (gI z 34).toInt ≤ (gI z2 34).toInt) → P z2) : wp_X9_readRule  z P := by
  unfold wp_X9_readRule
  have g_1 : (113 : Int32).toInt = 113 := by decide
  have g_2 : (117 : Int32).toInt = 117 := by decide
  have g_3 : (105 : Int32).toInt = 105 := by decide
  have g_4 : (101 : Int32).toInt = 101 := by decide
  have g_5 : (116 : Int32).toInt = 116 := by decide
  have g_6 : (0 : Int32).toInt = 0 := by decide
  refine s_X9_isWord ((113 : Int32)) ((117 : Int32)) ((105 : Int32)) ((101 : Int32)) ((116 : Int32)) ((0 : Int32)) z _ ht  (fun r2 hp_7 => ?_)
  rcases hp_7 with ⟨er2, hp_7⟩ | ⟨er2, hp_7⟩
  · subst er2
    intro K4 hK_8
    refine ⟨fun hc => absurd hc (by decide), fun _ => ?_⟩
    refine hK_8 ((0 : Int32)) ?_
    intro K_9 hK_51
    intro K_48 hK_52
    refine ⟨fun hc => absurd hc (by decide), fun _ => ?_⟩
    refine ⟨fun c_50 => ?_, fun c_50 => ?_⟩
    · skip
      have f_53 : 0 ≤ (gI z 34).toInt ∧ (gI z 34).toInt ≤ 20 := ht.1 34
      have i_54 := i_le (show (20 : Int32).toInt = 20 by decide) rfl c_50
      refine hK_52  ?_
      refine hK_51 ((0 : Int32)) ?_
      have g_92 : (0 : Int32).toInt = 0 := by decide
      have f_93 : 0 ≤ (gI z 38).toInt ∧ (gI z 38).toInt ≤ 300 := ht.1 38
      have f_94 : 0 ≤ (gI z 36).toInt ∧ (gI z 36).toInt ≤ 300 := ht.1 36
      refine s_X9_must ((0 : Int32)) z _ ht (by omega) (fun z_55 tz_55 o_96 hp_95 => ?_)
      have oz_55 : Same [34, 37, 38, 39, 41, 42] [24] z z_55 := (Same.rf (z := z)).tr o_96 (by decide) (by decide)
      have f_97 : 0 ≤ (gI z_55 38).toInt ∧ (gI z_55 38).toInt ≤ 300 := tz_55.1 38
      have f_98 : 0 ≤ (gI z_55 42).toInt ∧ (gI z_55 42).toInt ≤ 1 := tz_55.1 42
      have f_99 : 0 ≤ (gI z 42).toInt ∧ (gI z 42).toInt ≤ 1 := ht.1 42
      intro K_56 hK_100
      refine ⟨fun hc => absurd hc (by decide), fun _ => ?_⟩
      refine hK_100 ((3 : Int64)) ?_
      have g_133 : (3 : Int64).toInt = 3 := by decide
      have f_134 : 0 ≤ (gI z_55 36).toInt ∧ (gI z_55 36).toInt ≤ 300 := tz_55.1 36
      have q_135 := (o_96.fi 36 (by decide))
      refine s_X9_number ((3 : Int64)) z_55 _ tz_55 (by omega) (fun r_101 z_102 tz_102 o_137 hp_136 => ?_)
      have oz_102 : Same [34, 37, 38, 39, 41, 42] [24] z z_102 := oz_55.tr o_137 (by decide) (by decide)
      have f_138 : 0 ≤ (gI z_102 38).toInt ∧ (gI z_102 38).toInt ≤ 300 := tz_102.1 38
      have f_139 : 0 ≤ (gI z_102 42).toInt ∧ (gI z_102 42).toInt ≤ 1 := tz_102.1 42
      intro K_103 hK_140
      refine ⟨fun hc => absurd hc (by decide), fun _ => ?_⟩
      have g_141 : (102 : Int32).toInt = 102 := by decide
      have g_142 : (114 : Int32).toInt = 114 := by decide
      have g_143 : (111 : Int32).toInt = 111 := by decide
      have g_144 : (109 : Int32).toInt = 109 := by decide
      have g_145 : (0 : Int32).toInt = 0 := by decide
      have g_146 : (0 : Int32).toInt = 0 := by decide
      refine s_X9_isWord ((102 : Int32)) ((114 : Int32)) ((111 : Int32)) ((109 : Int32)) ((0 : Int32)) ((0 : Int32)) z_102 _ tz_102  (fun r_125 hp_147 => ?_)
      rcases hp_147 with ⟨er_125, hp_147⟩ | ⟨er_125, hp_147⟩
      · subst er_125
        have g_148 : (1 : Int32).toInt = 1 := by decide
        have f_149 : 0 ≤ (gI z_102 36).toInt ∧ (gI z_102 36).toInt ≤ 300 := tz_102.1 36
        have q_150 := ((o_137.fi 36 (by decide))).trans (o_96.fi 36 (by decide))
        refine s_X9_must ((1 : Int32)) z_102 _ tz_102 (by omega) (fun z_126 tz_126 o_152 hp_151 => ?_)
        have oz_126 : Same [34, 37, 38, 39, 41, 42] [24] z z_126 := oz_102.tr o_152 (by decide) (by decide)
        have f_153 : 0 ≤ (gI z_126 38).toInt ∧ (gI z_126 38).toInt ≤ 300 := tz_126.1 38
        have f_154 : 0 ≤ (gI z_126 42).toInt ∧ (gI z_126 42).toInt ≤ 1 := tz_126.1 42
        have g_155 : (23 : Int64).toInt = 23 := by decide
        have f_156 : 0 ≤ (gI z_126 36).toInt ∧ (gI z_126 36).toInt ≤ 300 := tz_126.1 36
        have q_157 := (((o_152.fi 36 (by decide))).trans (o_137.fi 36 (by decide))).trans (o_96.fi 36 (by decide))
        refine s_X9_number ((23 : Int64)) z_126 _ tz_126 (by omega) (fun r_127 z_128 tz_128 o_159 hp_158 => ?_)
        have oz_128 : Same [34, 37, 38, 39, 41, 42] [24] z z_128 := oz_126.tr o_159 (by decide) (by decide)
        have f_160 : 0 ≤ (gI z_128 38).toInt ∧ (gI z_128 38).toInt ≤ 300 := tz_128.1 38
        have f_161 : 0 ≤ (gI z_128 42).toInt ∧ (gI z_128 42).toInt ≤ 1 := tz_128.1 42
        have g_162 : (116 : Int32).toInt = 116 := by decide
        have g_163 : (111 : Int32).toInt = 111 := by decide
        have g_164 : (0 : Int32).toInt = 0 := by decide
        have g_165 : (0 : Int32).toInt = 0 := by decide
        have g_166 : (0 : Int32).toInt = 0 := by decide
        have g_167 : (0 : Int32).toInt = 0 := by decide
        refine s_X9_isWord ((116 : Int32)) ((111 : Int32)) ((0 : Int32)) ((0 : Int32)) ((0 : Int32)) ((0 : Int32)) z_128 _ tz_128  (fun r_129 hp_168 => ?_)
        rcases hp_168 with ⟨er_129, hp_168⟩ | ⟨er_129, hp_168⟩
        · subst er_129
          have g_169 : (1 : Int32).toInt = 1 := by decide
          have f_170 : 0 ≤ (gI z_128 36).toInt ∧ (gI z_128 36).toInt ≤ 300 := tz_128.1 36
          have q_171 := ((((o_159.fi 36 (by decide))).trans (o_152.fi 36 (by decide))).trans (o_137.fi 36 (by decide))).trans (o_96.fi 36 (by decide))
          refine s_X9_must ((1 : Int32)) z_128 _ tz_128 (by omega) (fun z_130 tz_130 o_173 hp_172 => ?_)
          have oz_130 : Same [34, 37, 38, 39, 41, 42] [24] z z_130 := oz_128.tr o_173 (by decide) (by decide)
          have f_174 : 0 ≤ (gI z_130 38).toInt ∧ (gI z_130 38).toInt ≤ 300 := tz_130.1 38
          have f_175 : 0 ≤ (gI z_130 42).toInt ∧ (gI z_130 42).toInt ≤ 1 := tz_130.1 42
          have g_176 : (23 : Int64).toInt = 23 := by decide
          have f_177 : 0 ≤ (gI z_130 36).toInt ∧ (gI z_130 36).toInt ≤ 300 := tz_130.1 36
          have q_178 := (((((o_173.fi 36 (by decide))).trans (o_159.fi 36 (by decide))).trans (o_152.fi 36 (by decide))).trans (o_137.fi 36 (by decide))).trans (o_96.fi 36 (by decide))
          refine s_X9_number ((23 : Int64)) z_130 _ tz_130 (by omega) (fun r_131 z_132 tz_132 o_180 hp_179 => ?_)
          have oz_132 : Same [34, 37, 38, 39, 41, 42] [24] z z_132 := oz_130.tr o_180 (by decide) (by decide)
          have f_181 : 0 ≤ (gI z_132 38).toInt ∧ (gI z_132 38).toInt ≤ 300 := tz_132.1 38
          have f_182 : 0 ≤ (gI z_132 42).toInt ∧ (gI z_132 42).toInt ≤ 1 := tz_132.1 42
          refine hK_140 r_127 r_131 z_132 ?_
          refine ⟨fun c_183 => ?_, fun c_183 => ?_⟩
          · skip
            have i_189 := i_eq rfl (show (0 : Int32).toInt = 0 by decide) c_183
            have f_190 : 0 ≤ (gI z_132 34).toInt ∧ (gI z_132 34).toInt ≤ 20 := tz_132.1 34
            have q_191 := ((((((o_180.fi 34 (by decide))).trans (o_173.fi 34 (by decide))).trans (o_159.fi 34 (by decide))).trans (o_152.fi 34 (by decide))).trans (o_137.fi 34 (by decide))).trans (o_96.fi 34 (by decide))
            refine ⟨vin (a_mul (show (4 : Int32).toInt = 4 by decide) rfl (by omega) (by omega)) (by omega) (by omega), ?_⟩
            intro z_184 ez_184
            have tz_184 : TM z_184 := by rw [ez_184]; exact Ty_wR tz_132 trivial
            have oz_184 : Same [34, 37, 38, 39, 41, 42] [24] z z_184 := oz_132.r (by decide) ez_184
            have f_192 : 0 ≤ (gI z_184 34).toInt ∧ (gI z_184 34).toInt ≤ 20 := tz_184.1 34
            have q_193 := (((((((show (gI z_184 34).toInt = (gI z_132 34).toInt by rw [ez_184]; rfl)).trans (o_180.fi 34 (by decide))).trans (o_173.fi 34 (by decide))).trans (o_159.fi 34 (by decide))).trans (o_152.fi 34 (by decide))).trans (o_137.fi 34 (by decide))).trans (o_96.fi 34 (by decide))
            refine ⟨vin (a_add (a_mul (show (4 : Int32).toInt = 4 by decide) rfl (by omega) (by omega)) (show (1 : Int32).toInt = 1 by decide) (by omega) (by omega)) (by omega) (by omega), ?_⟩
            intro z_185 ez_185
            have tz_185 : TM z_185 := by rw [ez_185]; exact Ty_wR tz_184 trivial
            have oz_185 : Same [34, 37, 38, 39, 41, 42] [24] z z_185 := oz_184.r (by decide) ez_185
            have f_194 : 0 ≤ (gI z_185 34).toInt ∧ (gI z_185 34).toInt ≤ 20 := tz_185.1 34
            have q_195 := ((((((((show (gI z_185 34).toInt = (gI z_184 34).toInt by rw [ez_185]; rfl)).trans (show (gI z_184 34).toInt = (gI z_132 34).toInt by rw [ez_184]; rfl)).trans (o_180.fi 34 (by decide))).trans (o_173.fi 34 (by decide))).trans (o_159.fi 34 (by decide))).trans (o_152.fi 34 (by decide))).trans (o_137.fi 34 (by decide))).trans (o_96.fi 34 (by decide))
            refine ⟨vin (a_add (a_mul (show (4 : Int32).toInt = 4 by decide) rfl (by omega) (by omega)) (show (2 : Int32).toInt = 2 by decide) (by omega) (by omega)) (by omega) (by omega), ?_⟩
            intro z_186 ez_186
            have tz_186 : TM z_186 := by rw [ez_186]; exact Ty_wR tz_185 trivial
            have oz_186 : Same [34, 37, 38, 39, 41, 42] [24] z z_186 := oz_185.r (by decide) ez_186
            have f_196 : 0 ≤ (gI z_186 34).toInt ∧ (gI z_186 34).toInt ≤ 20 := tz_186.1 34
            have q_197 := (((((((((show (gI z_186 34).toInt = (gI z_185 34).toInt by rw [ez_186]; rfl)).trans (show (gI z_185 34).toInt = (gI z_184 34).toInt by rw [ez_185]; rfl)).trans (show (gI z_184 34).toInt = (gI z_132 34).toInt by rw [ez_184]; rfl)).trans (o_180.fi 34 (by decide))).trans (o_173.fi 34 (by decide))).trans (o_159.fi 34 (by decide))).trans (o_152.fi 34 (by decide))).trans (o_137.fi 34 (by decide))).trans (o_96.fi 34 (by decide))
            refine ⟨vin (a_add (a_mul (show (4 : Int32).toInt = 4 by decide) rfl (by omega) (by omega)) (show (3 : Int32).toInt = 3 by decide) (by omega) (by omega)) (by omega) (by omega), ?_⟩
            intro z_187 ez_187
            have tz_187 : TM z_187 := by rw [ez_187]; exact Ty_wR tz_186 trivial
            have oz_187 : Same [34, 37, 38, 39, 41, 42] [24] z z_187 := oz_186.r (by decide) ez_187
            intro z_188 ez_188
            have f_198 : 0 ≤ (gI z_187 34).toInt ∧ (gI z_187 34).toInt ≤ 20 := tz_187.1 34
            have q_199 := ((((((((((show (gI z_187 34).toInt = (gI z_186 34).toInt by rw [ez_187]; rfl)).trans (show (gI z_186 34).toInt = (gI z_185 34).toInt by rw [ez_186]; rfl)).trans (show (gI z_185 34).toInt = (gI z_184 34).toInt by rw [ez_185]; rfl)).trans (show (gI z_184 34).toInt = (gI z_132 34).toInt by rw [ez_184]; rfl)).trans (o_180.fi 34 (by decide))).trans (o_173.fi 34 (by decide))).trans (o_159.fi 34 (by decide))).trans (o_152.fi 34 (by decide))).trans (o_137.fi 34 (by decide))).trans (o_96.fi 34 (by decide))
            have tz_188 : TM z_188 := by rw [ez_188]; exact Ty_wI tz_187 (show 0 ≤ ((gI z_187 34) + (1 : Int32)).toInt ∧ ((gI z_187 34) + (1 : Int32)).toInt ≤ 20 from by rw [(a_add rfl (show (1 : Int32).toInt = 1 by decide) (by omega) (by omega))]; omega)
            have oz_188 : Same [34, 37, 38, 39, 41, 42] [24] z z_188 := oz_187.i (by decide) ez_188
            have f_200 : 0 ≤ (gI z_188 38).toInt ∧ (gI z_188 38).toInt ≤ 300 := tz_188.1 38
            have q_201 := (((((show (gI z_188 38).toInt = (gI z_187 38).toInt by rw [ez_188]; rfl)).trans (show (gI z_187 38).toInt = (gI z_186 38).toInt by rw [ez_187]; rfl)).trans (show (gI z_186 38).toInt = (gI z_185 38).toInt by rw [ez_186]; rfl)).trans (show (gI z_185 38).toInt = (gI z_184 38).toInt by rw [ez_185]; rfl)).trans (show (gI z_184 38).toInt = (gI z_132 38).toInt by rw [ez_184]; rfl)
            have f_202 : 0 ≤ (gI z_188 42).toInt ∧ (gI z_188 42).toInt ≤ 1 := tz_188.1 42
            have q_203 := (((((show (gI z_188 42).toInt = (gI z_187 42).toInt by rw [ez_188]; rfl)).trans (show (gI z_187 42).toInt = (gI z_186 42).toInt by rw [ez_187]; rfl)).trans (show (gI z_186 42).toInt = (gI z_185 42).toInt by rw [ez_186]; rfl)).trans (show (gI z_185 42).toInt = (gI z_184 42).toInt by rw [ez_185]; rfl)).trans (show (gI z_184 42).toInt = (gI z_132 42).toInt by rw [ez_184]; rfl)
            have f_204 : 0 ≤ (gI z_188 34).toInt ∧ (gI z_188 34).toInt ≤ 20 := tz_188.1 34
            have q_205 := (show (gI z_188 34).toInt = ((gI z_187 34) + (1 : Int32)).toInt by rw [ez_188]; rfl)
            have q_206 : ((gI z_187 34) + (1 : Int32)).toInt = ((gI z_187 34).toInt + (1)) := (a_add rfl (show (1 : Int32).toInt = 1 by decide) (by omega) (by omega))
            exact hk z_188 tz_188 oz_188 (by omega)
          · skip
            have i_207 := i_ne rfl (show (0 : Int32).toInt = 0 by decide) c_183
            have f_208 : 0 ≤ (gI z_132 34).toInt ∧ (gI z_132 34).toInt ≤ 20 := tz_132.1 34
            have q_209 := ((((((o_180.fi 34 (by decide))).trans (o_173.fi 34 (by decide))).trans (o_159.fi 34 (by decide))).trans (o_152.fi 34 (by decide))).trans (o_137.fi 34 (by decide))).trans (o_96.fi 34 (by decide))
            exact hk z_132 tz_132 oz_132 (by omega)
        · subst er_129
          have g_210 : (0 : Int32).toInt = 0 := by decide
          have f_211 : 0 ≤ (gI z_128 36).toInt ∧ (gI z_128 36).toInt ≤ 300 := tz_128.1 36
          have q_212 := ((((o_159.fi 36 (by decide))).trans (o_152.fi 36 (by decide))).trans (o_137.fi 36 (by decide))).trans (o_96.fi 36 (by decide))
          refine s_X9_must ((0 : Int32)) z_128 _ tz_128 (by omega) (fun z_130 tz_130 o_214 hp_213 => ?_)
          have oz_130 : Same [34, 37, 38, 39, 41, 42] [24] z z_130 := oz_128.tr o_214 (by decide) (by decide)
          have f_215 : 0 ≤ (gI z_130 38).toInt ∧ (gI z_130 38).toInt ≤ 300 := tz_130.1 38
          have f_216 : 0 ≤ (gI z_130 42).toInt ∧ (gI z_130 42).toInt ≤ 1 := tz_130.1 42
          have g_217 : (23 : Int64).toInt = 23 := by decide
          have f_218 : 0 ≤ (gI z_130 36).toInt ∧ (gI z_130 36).toInt ≤ 300 := tz_130.1 36
          have q_219 := (((((o_214.fi 36 (by decide))).trans (o_159.fi 36 (by decide))).trans (o_152.fi 36 (by decide))).trans (o_137.fi 36 (by decide))).trans (o_96.fi 36 (by decide))
          refine s_X9_number ((23 : Int64)) z_130 _ tz_130 (by omega) (fun r_131 z_132 tz_132 o_221 hp_220 => ?_)
          have oz_132 : Same [34, 37, 38, 39, 41, 42] [24] z z_132 := oz_130.tr o_221 (by decide) (by decide)
          have f_222 : 0 ≤ (gI z_132 38).toInt ∧ (gI z_132 38).toInt ≤ 300 := tz_132.1 38
          have f_223 : 0 ≤ (gI z_132 42).toInt ∧ (gI z_132 42).toInt ≤ 1 := tz_132.1 42
          refine hK_140 r_127 r_131 z_132 ?_
          refine ⟨fun c_224 => ?_, fun c_224 => ?_⟩
          · skip
            have i_230 := i_eq rfl (show (0 : Int32).toInt = 0 by decide) c_224
            have f_231 : 0 ≤ (gI z_132 34).toInt ∧ (gI z_132 34).toInt ≤ 20 := tz_132.1 34
            have q_232 := ((((((o_221.fi 34 (by decide))).trans (o_214.fi 34 (by decide))).trans (o_159.fi 34 (by decide))).trans (o_152.fi 34 (by decide))).trans (o_137.fi 34 (by decide))).trans (o_96.fi 34 (by decide))
            refine ⟨vin (a_mul (show (4 : Int32).toInt = 4 by decide) rfl (by omega) (by omega)) (by omega) (by omega), ?_⟩
            intro z_225 ez_225
            have tz_225 : TM z_225 := by rw [ez_225]; exact Ty_wR tz_132 trivial
            have oz_225 : Same [34, 37, 38, 39, 41, 42] [24] z z_225 := oz_132.r (by decide) ez_225
            have f_233 : 0 ≤ (gI z_225 34).toInt ∧ (gI z_225 34).toInt ≤ 20 := tz_225.1 34
            have q_234 := (((((((show (gI z_225 34).toInt = (gI z_132 34).toInt by rw [ez_225]; rfl)).trans (o_221.fi 34 (by decide))).trans (o_214.fi 34 (by decide))).trans (o_159.fi 34 (by decide))).trans (o_152.fi 34 (by decide))).trans (o_137.fi 34 (by decide))).trans (o_96.fi 34 (by decide))
            refine ⟨vin (a_add (a_mul (show (4 : Int32).toInt = 4 by decide) rfl (by omega) (by omega)) (show (1 : Int32).toInt = 1 by decide) (by omega) (by omega)) (by omega) (by omega), ?_⟩
            intro z_226 ez_226
            have tz_226 : TM z_226 := by rw [ez_226]; exact Ty_wR tz_225 trivial
            have oz_226 : Same [34, 37, 38, 39, 41, 42] [24] z z_226 := oz_225.r (by decide) ez_226
            have f_235 : 0 ≤ (gI z_226 34).toInt ∧ (gI z_226 34).toInt ≤ 20 := tz_226.1 34
            have q_236 := ((((((((show (gI z_226 34).toInt = (gI z_225 34).toInt by rw [ez_226]; rfl)).trans (show (gI z_225 34).toInt = (gI z_132 34).toInt by rw [ez_225]; rfl)).trans (o_221.fi 34 (by decide))).trans (o_214.fi 34 (by decide))).trans (o_159.fi 34 (by decide))).trans (o_152.fi 34 (by decide))).trans (o_137.fi 34 (by decide))).trans (o_96.fi 34 (by decide))
            refine ⟨vin (a_add (a_mul (show (4 : Int32).toInt = 4 by decide) rfl (by omega) (by omega)) (show (2 : Int32).toInt = 2 by decide) (by omega) (by omega)) (by omega) (by omega), ?_⟩
            intro z_227 ez_227
            have tz_227 : TM z_227 := by rw [ez_227]; exact Ty_wR tz_226 trivial
            have oz_227 : Same [34, 37, 38, 39, 41, 42] [24] z z_227 := oz_226.r (by decide) ez_227
            have f_237 : 0 ≤ (gI z_227 34).toInt ∧ (gI z_227 34).toInt ≤ 20 := tz_227.1 34
            have q_238 := (((((((((show (gI z_227 34).toInt = (gI z_226 34).toInt by rw [ez_227]; rfl)).trans (show (gI z_226 34).toInt = (gI z_225 34).toInt by rw [ez_226]; rfl)).trans (show (gI z_225 34).toInt = (gI z_132 34).toInt by rw [ez_225]; rfl)).trans (o_221.fi 34 (by decide))).trans (o_214.fi 34 (by decide))).trans (o_159.fi 34 (by decide))).trans (o_152.fi 34 (by decide))).trans (o_137.fi 34 (by decide))).trans (o_96.fi 34 (by decide))
            refine ⟨vin (a_add (a_mul (show (4 : Int32).toInt = 4 by decide) rfl (by omega) (by omega)) (show (3 : Int32).toInt = 3 by decide) (by omega) (by omega)) (by omega) (by omega), ?_⟩
            intro z_228 ez_228
            have tz_228 : TM z_228 := by rw [ez_228]; exact Ty_wR tz_227 trivial
            have oz_228 : Same [34, 37, 38, 39, 41, 42] [24] z z_228 := oz_227.r (by decide) ez_228
            intro z_229 ez_229
            have f_239 : 0 ≤ (gI z_228 34).toInt ∧ (gI z_228 34).toInt ≤ 20 := tz_228.1 34
            have q_240 := ((((((((((show (gI z_228 34).toInt = (gI z_227 34).toInt by rw [ez_228]; rfl)).trans (show (gI z_227 34).toInt = (gI z_226 34).toInt by rw [ez_227]; rfl)).trans (show (gI z_226 34).toInt = (gI z_225 34).toInt by rw [ez_226]; rfl)).trans (show (gI z_225 34).toInt = (gI z_132 34).toInt by rw [ez_225]; rfl)).trans (o_221.fi 34 (by decide))).trans (o_214.fi 34 (by decide))).trans (o_159.fi 34 (by decide))).trans (o_152.fi 34 (by decide))).trans (o_137.fi 34 (by decide))).trans (o_96.fi 34 (by decide))
            have tz_229 : TM z_229 := by rw [ez_229]; exact Ty_wI tz_228 (show 0 ≤ ((gI z_228 34) + (1 : Int32)).toInt ∧ ((gI z_228 34) + (1 : Int32)).toInt ≤ 20 from by rw [(a_add rfl (show (1 : Int32).toInt = 1 by decide) (by omega) (by omega))]; omega)
            have oz_229 : Same [34, 37, 38, 39, 41, 42] [24] z z_229 := oz_228.i (by decide) ez_229
            have f_241 : 0 ≤ (gI z_229 38).toInt ∧ (gI z_229 38).toInt ≤ 300 := tz_229.1 38
            have q_242 := (((((show (gI z_229 38).toInt = (gI z_228 38).toInt by rw [ez_229]; rfl)).trans (show (gI z_228 38).toInt = (gI z_227 38).toInt by rw [ez_228]; rfl)).trans (show (gI z_227 38).toInt = (gI z_226 38).toInt by rw [ez_227]; rfl)).trans (show (gI z_226 38).toInt = (gI z_225 38).toInt by rw [ez_226]; rfl)).trans (show (gI z_225 38).toInt = (gI z_132 38).toInt by rw [ez_225]; rfl)
            have f_243 : 0 ≤ (gI z_229 42).toInt ∧ (gI z_229 42).toInt ≤ 1 := tz_229.1 42
            have q_244 := (((((show (gI z_229 42).toInt = (gI z_228 42).toInt by rw [ez_229]; rfl)).trans (show (gI z_228 42).toInt = (gI z_227 42).toInt by rw [ez_228]; rfl)).trans (show (gI z_227 42).toInt = (gI z_226 42).toInt by rw [ez_227]; rfl)).trans (show (gI z_226 42).toInt = (gI z_225 42).toInt by rw [ez_226]; rfl)).trans (show (gI z_225 42).toInt = (gI z_132 42).toInt by rw [ez_225]; rfl)
            have f_245 : 0 ≤ (gI z_229 34).toInt ∧ (gI z_229 34).toInt ≤ 20 := tz_229.1 34
            have q_246 := (show (gI z_229 34).toInt = ((gI z_228 34) + (1 : Int32)).toInt by rw [ez_229]; rfl)
            have q_247 : ((gI z_228 34) + (1 : Int32)).toInt = ((gI z_228 34).toInt + (1)) := (a_add rfl (show (1 : Int32).toInt = 1 by decide) (by omega) (by omega))
            exact hk z_229 tz_229 oz_229 (by omega)
          · skip
            have i_248 := i_ne rfl (show (0 : Int32).toInt = 0 by decide) c_224
            have f_249 : 0 ≤ (gI z_132 34).toInt ∧ (gI z_132 34).toInt ≤ 20 := tz_132.1 34
            have q_250 := ((((((o_221.fi 34 (by decide))).trans (o_214.fi 34 (by decide))).trans (o_159.fi 34 (by decide))).trans (o_152.fi 34 (by decide))).trans (o_137.fi 34 (by decide))).trans (o_96.fi 34 (by decide))
            exact hk z_132 tz_132 oz_132 (by omega)
      · subst er_125
        have g_251 : (0 : Int32).toInt = 0 := by decide
        have f_252 : 0 ≤ (gI z_102 36).toInt ∧ (gI z_102 36).toInt ≤ 300 := tz_102.1 36
        have q_253 := ((o_137.fi 36 (by decide))).trans (o_96.fi 36 (by decide))
        refine s_X9_must ((0 : Int32)) z_102 _ tz_102 (by omega) (fun z_126 tz_126 o_255 hp_254 => ?_)
        have oz_126 : Same [34, 37, 38, 39, 41, 42] [24] z z_126 := oz_102.tr o_255 (by decide) (by decide)
        have f_256 : 0 ≤ (gI z_126 38).toInt ∧ (gI z_126 38).toInt ≤ 300 := tz_126.1 38
        have f_257 : 0 ≤ (gI z_126 42).toInt ∧ (gI z_126 42).toInt ≤ 1 := tz_126.1 42
        have g_258 : (23 : Int64).toInt = 23 := by decide
        have f_259 : 0 ≤ (gI z_126 36).toInt ∧ (gI z_126 36).toInt ≤ 300 := tz_126.1 36
        have q_260 := (((o_255.fi 36 (by decide))).trans (o_137.fi 36 (by decide))).trans (o_96.fi 36 (by decide))
        refine s_X9_number ((23 : Int64)) z_126 _ tz_126 (by omega) (fun r_127 z_128 tz_128 o_262 hp_261 => ?_)
        have oz_128 : Same [34, 37, 38, 39, 41, 42] [24] z z_128 := oz_126.tr o_262 (by decide) (by decide)
        have f_263 : 0 ≤ (gI z_128 38).toInt ∧ (gI z_128 38).toInt ≤ 300 := tz_128.1 38
        have f_264 : 0 ≤ (gI z_128 42).toInt ∧ (gI z_128 42).toInt ≤ 1 := tz_128.1 42
        have g_265 : (116 : Int32).toInt = 116 := by decide
        have g_266 : (111 : Int32).toInt = 111 := by decide
        have g_267 : (0 : Int32).toInt = 0 := by decide
        have g_268 : (0 : Int32).toInt = 0 := by decide
        have g_269 : (0 : Int32).toInt = 0 := by decide
        have g_270 : (0 : Int32).toInt = 0 := by decide
        refine s_X9_isWord ((116 : Int32)) ((111 : Int32)) ((0 : Int32)) ((0 : Int32)) ((0 : Int32)) ((0 : Int32)) z_128 _ tz_128  (fun r_129 hp_271 => ?_)
        rcases hp_271 with ⟨er_129, hp_271⟩ | ⟨er_129, hp_271⟩
        · subst er_129
          have g_272 : (1 : Int32).toInt = 1 := by decide
          have f_273 : 0 ≤ (gI z_128 36).toInt ∧ (gI z_128 36).toInt ≤ 300 := tz_128.1 36
          have q_274 := ((((o_262.fi 36 (by decide))).trans (o_255.fi 36 (by decide))).trans (o_137.fi 36 (by decide))).trans (o_96.fi 36 (by decide))
          refine s_X9_must ((1 : Int32)) z_128 _ tz_128 (by omega) (fun z_130 tz_130 o_276 hp_275 => ?_)
          have oz_130 : Same [34, 37, 38, 39, 41, 42] [24] z z_130 := oz_128.tr o_276 (by decide) (by decide)
          have f_277 : 0 ≤ (gI z_130 38).toInt ∧ (gI z_130 38).toInt ≤ 300 := tz_130.1 38
          have f_278 : 0 ≤ (gI z_130 42).toInt ∧ (gI z_130 42).toInt ≤ 1 := tz_130.1 42
          have g_279 : (23 : Int64).toInt = 23 := by decide
          have f_280 : 0 ≤ (gI z_130 36).toInt ∧ (gI z_130 36).toInt ≤ 300 := tz_130.1 36
          have q_281 := (((((o_276.fi 36 (by decide))).trans (o_262.fi 36 (by decide))).trans (o_255.fi 36 (by decide))).trans (o_137.fi 36 (by decide))).trans (o_96.fi 36 (by decide))
          refine s_X9_number ((23 : Int64)) z_130 _ tz_130 (by omega) (fun r_131 z_132 tz_132 o_283 hp_282 => ?_)
          have oz_132 : Same [34, 37, 38, 39, 41, 42] [24] z z_132 := oz_130.tr o_283 (by decide) (by decide)
          have f_284 : 0 ≤ (gI z_132 38).toInt ∧ (gI z_132 38).toInt ≤ 300 := tz_132.1 38
          have f_285 : 0 ≤ (gI z_132 42).toInt ∧ (gI z_132 42).toInt ≤ 1 := tz_132.1 42
          refine hK_140 r_127 r_131 z_132 ?_
          refine ⟨fun c_286 => ?_, fun c_286 => ?_⟩
          · skip
            have i_292 := i_eq rfl (show (0 : Int32).toInt = 0 by decide) c_286
            have f_293 : 0 ≤ (gI z_132 34).toInt ∧ (gI z_132 34).toInt ≤ 20 := tz_132.1 34
            have q_294 := ((((((o_283.fi 34 (by decide))).trans (o_276.fi 34 (by decide))).trans (o_262.fi 34 (by decide))).trans (o_255.fi 34 (by decide))).trans (o_137.fi 34 (by decide))).trans (o_96.fi 34 (by decide))
            refine ⟨vin (a_mul (show (4 : Int32).toInt = 4 by decide) rfl (by omega) (by omega)) (by omega) (by omega), ?_⟩
            intro z_287 ez_287
            have tz_287 : TM z_287 := by rw [ez_287]; exact Ty_wR tz_132 trivial
            have oz_287 : Same [34, 37, 38, 39, 41, 42] [24] z z_287 := oz_132.r (by decide) ez_287
            have f_295 : 0 ≤ (gI z_287 34).toInt ∧ (gI z_287 34).toInt ≤ 20 := tz_287.1 34
            have q_296 := (((((((show (gI z_287 34).toInt = (gI z_132 34).toInt by rw [ez_287]; rfl)).trans (o_283.fi 34 (by decide))).trans (o_276.fi 34 (by decide))).trans (o_262.fi 34 (by decide))).trans (o_255.fi 34 (by decide))).trans (o_137.fi 34 (by decide))).trans (o_96.fi 34 (by decide))
            refine ⟨vin (a_add (a_mul (show (4 : Int32).toInt = 4 by decide) rfl (by omega) (by omega)) (show (1 : Int32).toInt = 1 by decide) (by omega) (by omega)) (by omega) (by omega), ?_⟩
            intro z_288 ez_288
            have tz_288 : TM z_288 := by rw [ez_288]; exact Ty_wR tz_287 trivial
            have oz_288 : Same [34, 37, 38, 39, 41, 42] [24] z z_288 := oz_287.r (by decide) ez_288
            have f_297 : 0 ≤ (gI z_288 34).toInt ∧ (gI z_288 34).toInt ≤ 20 := tz_288.1 34
            have q_298 := ((((((((show (gI z_288 34).toInt = (gI z_287 34).toInt by rw [ez_288]; rfl)).trans (show (gI z_287 34).toInt = (gI z_132 34).toInt by rw [ez_287]; rfl)).trans (o_283.fi 34 (by decide))).trans (o_276.fi 34 (by decide))).trans (o_262.fi 34 (by decide))).trans (o_255.fi 34 (by decide))).trans (o_137.fi 34 (by decide))).trans (o_96.fi 34 (by decide))
            refine ⟨vin (a_add (a_mul (show (4 : Int32).toInt = 4 by decide) rfl (by omega) (by omega)) (show (2 : Int32).toInt = 2 by decide) (by omega) (by omega)) (by omega) (by omega), ?_⟩
            intro z_289 ez_289
            have tz_289 : TM z_289 := by rw [ez_289]; exact Ty_wR tz_288 trivial
            have oz_289 : Same [34, 37, 38, 39, 41, 42] [24] z z_289 := oz_288.r (by decide) ez_289
            have f_299 : 0 ≤ (gI z_289 34).toInt ∧ (gI z_289 34).toInt ≤ 20 := tz_289.1 34
            have q_300 := (((((((((show (gI z_289 34).toInt = (gI z_288 34).toInt by rw [ez_289]; rfl)).trans (show (gI z_288 34).toInt = (gI z_287 34).toInt by rw [ez_288]; rfl)).trans (show (gI z_287 34).toInt = (gI z_132 34).toInt by rw [ez_287]; rfl)).trans (o_283.fi 34 (by decide))).trans (o_276.fi 34 (by decide))).trans (o_262.fi 34 (by decide))).trans (o_255.fi 34 (by decide))).trans (o_137.fi 34 (by decide))).trans (o_96.fi 34 (by decide))
            refine ⟨vin (a_add (a_mul (show (4 : Int32).toInt = 4 by decide) rfl (by omega) (by omega)) (show (3 : Int32).toInt = 3 by decide) (by omega) (by omega)) (by omega) (by omega), ?_⟩
            intro z_290 ez_290
            have tz_290 : TM z_290 := by rw [ez_290]; exact Ty_wR tz_289 trivial
            have oz_290 : Same [34, 37, 38, 39, 41, 42] [24] z z_290 := oz_289.r (by decide) ez_290
            intro z_291 ez_291
            have f_301 : 0 ≤ (gI z_290 34).toInt ∧ (gI z_290 34).toInt ≤ 20 := tz_290.1 34
            have q_302 := ((((((((((show (gI z_290 34).toInt = (gI z_289 34).toInt by rw [ez_290]; rfl)).trans (show (gI z_289 34).toInt = (gI z_288 34).toInt by rw [ez_289]; rfl)).trans (show (gI z_288 34).toInt = (gI z_287 34).toInt by rw [ez_288]; rfl)).trans (show (gI z_287 34).toInt = (gI z_132 34).toInt by rw [ez_287]; rfl)).trans (o_283.fi 34 (by decide))).trans (o_276.fi 34 (by decide))).trans (o_262.fi 34 (by decide))).trans (o_255.fi 34 (by decide))).trans (o_137.fi 34 (by decide))).trans (o_96.fi 34 (by decide))
            have tz_291 : TM z_291 := by rw [ez_291]; exact Ty_wI tz_290 (show 0 ≤ ((gI z_290 34) + (1 : Int32)).toInt ∧ ((gI z_290 34) + (1 : Int32)).toInt ≤ 20 from by rw [(a_add rfl (show (1 : Int32).toInt = 1 by decide) (by omega) (by omega))]; omega)
            have oz_291 : Same [34, 37, 38, 39, 41, 42] [24] z z_291 := oz_290.i (by decide) ez_291
            have f_303 : 0 ≤ (gI z_291 38).toInt ∧ (gI z_291 38).toInt ≤ 300 := tz_291.1 38
            have q_304 := (((((show (gI z_291 38).toInt = (gI z_290 38).toInt by rw [ez_291]; rfl)).trans (show (gI z_290 38).toInt = (gI z_289 38).toInt by rw [ez_290]; rfl)).trans (show (gI z_289 38).toInt = (gI z_288 38).toInt by rw [ez_289]; rfl)).trans (show (gI z_288 38).toInt = (gI z_287 38).toInt by rw [ez_288]; rfl)).trans (show (gI z_287 38).toInt = (gI z_132 38).toInt by rw [ez_287]; rfl)
            have f_305 : 0 ≤ (gI z_291 42).toInt ∧ (gI z_291 42).toInt ≤ 1 := tz_291.1 42
            have q_306 := (((((show (gI z_291 42).toInt = (gI z_290 42).toInt by rw [ez_291]; rfl)).trans (show (gI z_290 42).toInt = (gI z_289 42).toInt by rw [ez_290]; rfl)).trans (show (gI z_289 42).toInt = (gI z_288 42).toInt by rw [ez_289]; rfl)).trans (show (gI z_288 42).toInt = (gI z_287 42).toInt by rw [ez_288]; rfl)).trans (show (gI z_287 42).toInt = (gI z_132 42).toInt by rw [ez_287]; rfl)
            have f_307 : 0 ≤ (gI z_291 34).toInt ∧ (gI z_291 34).toInt ≤ 20 := tz_291.1 34
            have q_308 := (show (gI z_291 34).toInt = ((gI z_290 34) + (1 : Int32)).toInt by rw [ez_291]; rfl)
            have q_309 : ((gI z_290 34) + (1 : Int32)).toInt = ((gI z_290 34).toInt + (1)) := (a_add rfl (show (1 : Int32).toInt = 1 by decide) (by omega) (by omega))
            exact hk z_291 tz_291 oz_291 (by omega)
          · skip
            have i_310 := i_ne rfl (show (0 : Int32).toInt = 0 by decide) c_286
            have f_311 : 0 ≤ (gI z_132 34).toInt ∧ (gI z_132 34).toInt ≤ 20 := tz_132.1 34
            have q_312 := ((((((o_283.fi 34 (by decide))).trans (o_276.fi 34 (by decide))).trans (o_262.fi 34 (by decide))).trans (o_255.fi 34 (by decide))).trans (o_137.fi 34 (by decide))).trans (o_96.fi 34 (by decide))
            exact hk z_132 tz_132 oz_132 (by omega)
        · subst er_129
          have g_313 : (0 : Int32).toInt = 0 := by decide
          have f_314 : 0 ≤ (gI z_128 36).toInt ∧ (gI z_128 36).toInt ≤ 300 := tz_128.1 36
          have q_315 := ((((o_262.fi 36 (by decide))).trans (o_255.fi 36 (by decide))).trans (o_137.fi 36 (by decide))).trans (o_96.fi 36 (by decide))
          refine s_X9_must ((0 : Int32)) z_128 _ tz_128 (by omega) (fun z_130 tz_130 o_317 hp_316 => ?_)
          have oz_130 : Same [34, 37, 38, 39, 41, 42] [24] z z_130 := oz_128.tr o_317 (by decide) (by decide)
          have f_318 : 0 ≤ (gI z_130 38).toInt ∧ (gI z_130 38).toInt ≤ 300 := tz_130.1 38
          have f_319 : 0 ≤ (gI z_130 42).toInt ∧ (gI z_130 42).toInt ≤ 1 := tz_130.1 42
          have g_320 : (23 : Int64).toInt = 23 := by decide
          have f_321 : 0 ≤ (gI z_130 36).toInt ∧ (gI z_130 36).toInt ≤ 300 := tz_130.1 36
          have q_322 := (((((o_317.fi 36 (by decide))).trans (o_262.fi 36 (by decide))).trans (o_255.fi 36 (by decide))).trans (o_137.fi 36 (by decide))).trans (o_96.fi 36 (by decide))
          refine s_X9_number ((23 : Int64)) z_130 _ tz_130 (by omega) (fun r_131 z_132 tz_132 o_324 hp_323 => ?_)
          have oz_132 : Same [34, 37, 38, 39, 41, 42] [24] z z_132 := oz_130.tr o_324 (by decide) (by decide)
          have f_325 : 0 ≤ (gI z_132 38).toInt ∧ (gI z_132 38).toInt ≤ 300 := tz_132.1 38
          have f_326 : 0 ≤ (gI z_132 42).toInt ∧ (gI z_132 42).toInt ≤ 1 := tz_132.1 42
          refine hK_140 r_127 r_131 z_132 ?_
          refine ⟨fun c_327 => ?_, fun c_327 => ?_⟩
          · skip
            have i_333 := i_eq rfl (show (0 : Int32).toInt = 0 by decide) c_327
            have f_334 : 0 ≤ (gI z_132 34).toInt ∧ (gI z_132 34).toInt ≤ 20 := tz_132.1 34
            have q_335 := ((((((o_324.fi 34 (by decide))).trans (o_317.fi 34 (by decide))).trans (o_262.fi 34 (by decide))).trans (o_255.fi 34 (by decide))).trans (o_137.fi 34 (by decide))).trans (o_96.fi 34 (by decide))
            refine ⟨vin (a_mul (show (4 : Int32).toInt = 4 by decide) rfl (by omega) (by omega)) (by omega) (by omega), ?_⟩
            intro z_328 ez_328
            have tz_328 : TM z_328 := by rw [ez_328]; exact Ty_wR tz_132 trivial
            have oz_328 : Same [34, 37, 38, 39, 41, 42] [24] z z_328 := oz_132.r (by decide) ez_328
            have f_336 : 0 ≤ (gI z_328 34).toInt ∧ (gI z_328 34).toInt ≤ 20 := tz_328.1 34
            have q_337 := (((((((show (gI z_328 34).toInt = (gI z_132 34).toInt by rw [ez_328]; rfl)).trans (o_324.fi 34 (by decide))).trans (o_317.fi 34 (by decide))).trans (o_262.fi 34 (by decide))).trans (o_255.fi 34 (by decide))).trans (o_137.fi 34 (by decide))).trans (o_96.fi 34 (by decide))
            refine ⟨vin (a_add (a_mul (show (4 : Int32).toInt = 4 by decide) rfl (by omega) (by omega)) (show (1 : Int32).toInt = 1 by decide) (by omega) (by omega)) (by omega) (by omega), ?_⟩
            intro z_329 ez_329
            have tz_329 : TM z_329 := by rw [ez_329]; exact Ty_wR tz_328 trivial
            have oz_329 : Same [34, 37, 38, 39, 41, 42] [24] z z_329 := oz_328.r (by decide) ez_329
            have f_338 : 0 ≤ (gI z_329 34).toInt ∧ (gI z_329 34).toInt ≤ 20 := tz_329.1 34
            have q_339 := ((((((((show (gI z_329 34).toInt = (gI z_328 34).toInt by rw [ez_329]; rfl)).trans (show (gI z_328 34).toInt = (gI z_132 34).toInt by rw [ez_328]; rfl)).trans (o_324.fi 34 (by decide))).trans (o_317.fi 34 (by decide))).trans (o_262.fi 34 (by decide))).trans (o_255.fi 34 (by decide))).trans (o_137.fi 34 (by decide))).trans (o_96.fi 34 (by decide))
            refine ⟨vin (a_add (a_mul (show (4 : Int32).toInt = 4 by decide) rfl (by omega) (by omega)) (show (2 : Int32).toInt = 2 by decide) (by omega) (by omega)) (by omega) (by omega), ?_⟩
            intro z_330 ez_330
            have tz_330 : TM z_330 := by rw [ez_330]; exact Ty_wR tz_329 trivial
            have oz_330 : Same [34, 37, 38, 39, 41, 42] [24] z z_330 := oz_329.r (by decide) ez_330
            have f_340 : 0 ≤ (gI z_330 34).toInt ∧ (gI z_330 34).toInt ≤ 20 := tz_330.1 34
            have q_341 := (((((((((show (gI z_330 34).toInt = (gI z_329 34).toInt by rw [ez_330]; rfl)).trans (show (gI z_329 34).toInt = (gI z_328 34).toInt by rw [ez_329]; rfl)).trans (show (gI z_328 34).toInt = (gI z_132 34).toInt by rw [ez_328]; rfl)).trans (o_324.fi 34 (by decide))).trans (o_317.fi 34 (by decide))).trans (o_262.fi 34 (by decide))).trans (o_255.fi 34 (by decide))).trans (o_137.fi 34 (by decide))).trans (o_96.fi 34 (by decide))
            refine ⟨vin (a_add (a_mul (show (4 : Int32).toInt = 4 by decide) rfl (by omega) (by omega)) (show (3 : Int32).toInt = 3 by decide) (by omega) (by omega)) (by omega) (by omega), ?_⟩
            intro z_331 ez_331
            have tz_331 : TM z_331 := by rw [ez_331]; exact Ty_wR tz_330 trivial
            have oz_331 : Same [34, 37, 38, 39, 41, 42] [24] z z_331 := oz_330.r (by decide) ez_331
            intro z_332 ez_332
            have f_342 : 0 ≤ (gI z_331 34).toInt ∧ (gI z_331 34).toInt ≤ 20 := tz_331.1 34
            have q_343 := ((((((((((show (gI z_331 34).toInt = (gI z_330 34).toInt by rw [ez_331]; rfl)).trans (show (gI z_330 34).toInt = (gI z_329 34).toInt by rw [ez_330]; rfl)).trans (show (gI z_329 34).toInt = (gI z_328 34).toInt by rw [ez_329]; rfl)).trans (show (gI z_328 34).toInt = (gI z_132 34).toInt by rw [ez_328]; rfl)).trans (o_324.fi 34 (by decide))).trans (o_317.fi 34 (by decide))).trans (o_262.fi 34 (by decide))).trans (o_255.fi 34 (by decide))).trans (o_137.fi 34 (by decide))).trans (o_96.fi 34 (by decide))
            have tz_332 : TM z_332 := by rw [ez_332]; exact Ty_wI tz_331 (show 0 ≤ ((gI z_331 34) + (1 : Int32)).toInt ∧ ((gI z_331 34) + (1 : Int32)).toInt ≤ 20 from by rw [(a_add rfl (show (1 : Int32).toInt = 1 by decide) (by omega) (by omega))]; omega)
            have oz_332 : Same [34, 37, 38, 39, 41, 42] [24] z z_332 := oz_331.i (by decide) ez_332
            have f_344 : 0 ≤ (gI z_332 38).toInt ∧ (gI z_332 38).toInt ≤ 300 := tz_332.1 38
            have q_345 := (((((show (gI z_332 38).toInt = (gI z_331 38).toInt by rw [ez_332]; rfl)).trans (show (gI z_331 38).toInt = (gI z_330 38).toInt by rw [ez_331]; rfl)).trans (show (gI z_330 38).toInt = (gI z_329 38).toInt by rw [ez_330]; rfl)).trans (show (gI z_329 38).toInt = (gI z_328 38).toInt by rw [ez_329]; rfl)).trans (show (gI z_328 38).toInt = (gI z_132 38).toInt by rw [ez_328]; rfl)
            have f_346 : 0 ≤ (gI z_332 42).toInt ∧ (gI z_332 42).toInt ≤ 1 := tz_332.1 42
            have q_347 := (((((show (gI z_332 42).toInt = (gI z_331 42).toInt by rw [ez_332]; rfl)).trans (show (gI z_331 42).toInt = (gI z_330 42).toInt by rw [ez_331]; rfl)).trans (show (gI z_330 42).toInt = (gI z_329 42).toInt by rw [ez_330]; rfl)).trans (show (gI z_329 42).toInt = (gI z_328 42).toInt by rw [ez_329]; rfl)).trans (show (gI z_328 42).toInt = (gI z_132 42).toInt by rw [ez_328]; rfl)
            have f_348 : 0 ≤ (gI z_332 34).toInt ∧ (gI z_332 34).toInt ≤ 20 := tz_332.1 34
            have q_349 := (show (gI z_332 34).toInt = ((gI z_331 34) + (1 : Int32)).toInt by rw [ez_332]; rfl)
            have q_350 : ((gI z_331 34) + (1 : Int32)).toInt = ((gI z_331 34).toInt + (1)) := (a_add rfl (show (1 : Int32).toInt = 1 by decide) (by omega) (by omega))
            exact hk z_332 tz_332 oz_332 (by omega)
          · skip
            have i_351 := i_ne rfl (show (0 : Int32).toInt = 0 by decide) c_327
            have f_352 : 0 ≤ (gI z_132 34).toInt ∧ (gI z_132 34).toInt ≤ 20 := tz_132.1 34
            have q_353 := ((((((o_324.fi 34 (by decide))).trans (o_317.fi 34 (by decide))).trans (o_262.fi 34 (by decide))).trans (o_255.fi 34 (by decide))).trans (o_137.fi 34 (by decide))).trans (o_96.fi 34 (by decide))
            exact hk z_132 tz_132 oz_132 (by omega)
    · skip
      have f_354 : 0 ≤ (gI z 34).toInt ∧ (gI z 34).toInt ≤ 20 := ht.1 34
      have i_355 := i_nle (show (20 : Int32).toInt = 20 by decide) rfl c_50
      refine hK_51 ((1 : Int32)) ?_
      have g_393 : (1 : Int32).toInt = 1 := by decide
      have f_394 : 0 ≤ (gI z 38).toInt ∧ (gI z 38).toInt ≤ 300 := ht.1 38
      have f_395 : 0 ≤ (gI z 36).toInt ∧ (gI z 36).toInt ≤ 300 := ht.1 36
      refine s_X9_must ((1 : Int32)) z _ ht (by omega) (fun z_356 tz_356 o_397 hp_396 => ?_)
      have oz_356 : Same [34, 37, 38, 39, 41, 42] [24] z z_356 := (Same.rf (z := z)).tr o_397 (by decide) (by decide)
      have f_398 : 0 ≤ (gI z_356 38).toInt ∧ (gI z_356 38).toInt ≤ 300 := tz_356.1 38
      have f_399 : 0 ≤ (gI z_356 42).toInt ∧ (gI z_356 42).toInt ≤ 1 := tz_356.1 42
      have f_400 : 0 ≤ (gI z 42).toInt ∧ (gI z 42).toInt ≤ 1 := ht.1 42
      intro K_357 hK_401
      refine ⟨fun hc => absurd hc (by decide), fun _ => ?_⟩
      refine hK_401 ((3 : Int64)) ?_
      have g_434 : (3 : Int64).toInt = 3 := by decide
      have f_435 : 0 ≤ (gI z_356 36).toInt ∧ (gI z_356 36).toInt ≤ 300 := tz_356.1 36
      have q_436 := (o_397.fi 36 (by decide))
      refine s_X9_number ((3 : Int64)) z_356 _ tz_356 (by omega) (fun r_402 z_403 tz_403 o_438 hp_437 => ?_)
      have oz_403 : Same [34, 37, 38, 39, 41, 42] [24] z z_403 := oz_356.tr o_438 (by decide) (by decide)
      have f_439 : 0 ≤ (gI z_403 38).toInt ∧ (gI z_403 38).toInt ≤ 300 := tz_403.1 38
      have f_440 : 0 ≤ (gI z_403 42).toInt ∧ (gI z_403 42).toInt ≤ 1 := tz_403.1 42
      intro K_404 hK_441
      refine ⟨fun hc => absurd hc (by decide), fun _ => ?_⟩
      have g_442 : (102 : Int32).toInt = 102 := by decide
      have g_443 : (114 : Int32).toInt = 114 := by decide
      have g_444 : (111 : Int32).toInt = 111 := by decide
      have g_445 : (109 : Int32).toInt = 109 := by decide
      have g_446 : (0 : Int32).toInt = 0 := by decide
      have g_447 : (0 : Int32).toInt = 0 := by decide
      refine s_X9_isWord ((102 : Int32)) ((114 : Int32)) ((111 : Int32)) ((109 : Int32)) ((0 : Int32)) ((0 : Int32)) z_403 _ tz_403  (fun r_426 hp_448 => ?_)
      rcases hp_448 with ⟨er_426, hp_448⟩ | ⟨er_426, hp_448⟩
      · subst er_426
        have g_449 : (1 : Int32).toInt = 1 := by decide
        have f_450 : 0 ≤ (gI z_403 36).toInt ∧ (gI z_403 36).toInt ≤ 300 := tz_403.1 36
        have q_451 := ((o_438.fi 36 (by decide))).trans (o_397.fi 36 (by decide))
        refine s_X9_must ((1 : Int32)) z_403 _ tz_403 (by omega) (fun z_427 tz_427 o_453 hp_452 => ?_)
        have oz_427 : Same [34, 37, 38, 39, 41, 42] [24] z z_427 := oz_403.tr o_453 (by decide) (by decide)
        have f_454 : 0 ≤ (gI z_427 38).toInt ∧ (gI z_427 38).toInt ≤ 300 := tz_427.1 38
        have f_455 : 0 ≤ (gI z_427 42).toInt ∧ (gI z_427 42).toInt ≤ 1 := tz_427.1 42
        have g_456 : (23 : Int64).toInt = 23 := by decide
        have f_457 : 0 ≤ (gI z_427 36).toInt ∧ (gI z_427 36).toInt ≤ 300 := tz_427.1 36
        have q_458 := (((o_453.fi 36 (by decide))).trans (o_438.fi 36 (by decide))).trans (o_397.fi 36 (by decide))
        refine s_X9_number ((23 : Int64)) z_427 _ tz_427 (by omega) (fun r_428 z_429 tz_429 o_460 hp_459 => ?_)
        have oz_429 : Same [34, 37, 38, 39, 41, 42] [24] z z_429 := oz_427.tr o_460 (by decide) (by decide)
        have f_461 : 0 ≤ (gI z_429 38).toInt ∧ (gI z_429 38).toInt ≤ 300 := tz_429.1 38
        have f_462 : 0 ≤ (gI z_429 42).toInt ∧ (gI z_429 42).toInt ≤ 1 := tz_429.1 42
        have g_463 : (116 : Int32).toInt = 116 := by decide
        have g_464 : (111 : Int32).toInt = 111 := by decide
        have g_465 : (0 : Int32).toInt = 0 := by decide
        have g_466 : (0 : Int32).toInt = 0 := by decide
        have g_467 : (0 : Int32).toInt = 0 := by decide
        have g_468 : (0 : Int32).toInt = 0 := by decide
        refine s_X9_isWord ((116 : Int32)) ((111 : Int32)) ((0 : Int32)) ((0 : Int32)) ((0 : Int32)) ((0 : Int32)) z_429 _ tz_429  (fun r_430 hp_469 => ?_)
        rcases hp_469 with ⟨er_430, hp_469⟩ | ⟨er_430, hp_469⟩
        · subst er_430
          have g_470 : (1 : Int32).toInt = 1 := by decide
          have f_471 : 0 ≤ (gI z_429 36).toInt ∧ (gI z_429 36).toInt ≤ 300 := tz_429.1 36
          have q_472 := ((((o_460.fi 36 (by decide))).trans (o_453.fi 36 (by decide))).trans (o_438.fi 36 (by decide))).trans (o_397.fi 36 (by decide))
          refine s_X9_must ((1 : Int32)) z_429 _ tz_429 (by omega) (fun z_431 tz_431 o_474 hp_473 => ?_)
          have oz_431 : Same [34, 37, 38, 39, 41, 42] [24] z z_431 := oz_429.tr o_474 (by decide) (by decide)
          have f_475 : 0 ≤ (gI z_431 38).toInt ∧ (gI z_431 38).toInt ≤ 300 := tz_431.1 38
          have f_476 : 0 ≤ (gI z_431 42).toInt ∧ (gI z_431 42).toInt ≤ 1 := tz_431.1 42
          have g_477 : (23 : Int64).toInt = 23 := by decide
          have f_478 : 0 ≤ (gI z_431 36).toInt ∧ (gI z_431 36).toInt ≤ 300 := tz_431.1 36
          have q_479 := (((((o_474.fi 36 (by decide))).trans (o_460.fi 36 (by decide))).trans (o_453.fi 36 (by decide))).trans (o_438.fi 36 (by decide))).trans (o_397.fi 36 (by decide))
          refine s_X9_number ((23 : Int64)) z_431 _ tz_431 (by omega) (fun r_432 z_433 tz_433 o_481 hp_480 => ?_)
          have oz_433 : Same [34, 37, 38, 39, 41, 42] [24] z z_433 := oz_431.tr o_481 (by decide) (by decide)
          have f_482 : 0 ≤ (gI z_433 38).toInt ∧ (gI z_433 38).toInt ≤ 300 := tz_433.1 38
          have f_483 : 0 ≤ (gI z_433 42).toInt ∧ (gI z_433 42).toInt ≤ 1 := tz_433.1 42
          refine hK_441 r_428 r_432 z_433 ?_
          refine ⟨fun c_484 => ?_, fun c_484 => ?_⟩
          · skip
            have i_490 := i_eq rfl (show (0 : Int32).toInt = 0 by decide) c_484
            have f_491 : 0 ≤ (gI z_433 34).toInt ∧ (gI z_433 34).toInt ≤ 20 := tz_433.1 34
            have q_492 := ((((((o_481.fi 34 (by decide))).trans (o_474.fi 34 (by decide))).trans (o_460.fi 34 (by decide))).trans (o_453.fi 34 (by decide))).trans (o_438.fi 34 (by decide))).trans (o_397.fi 34 (by decide))
            refine ⟨vin (a_mul (show (4 : Int32).toInt = 4 by decide) rfl (by omega) (by omega)) (by omega) (by omega), ?_⟩
            intro z_485 ez_485
            have tz_485 : TM z_485 := by rw [ez_485]; exact Ty_wR tz_433 trivial
            have oz_485 : Same [34, 37, 38, 39, 41, 42] [24] z z_485 := oz_433.r (by decide) ez_485
            have f_493 : 0 ≤ (gI z_485 34).toInt ∧ (gI z_485 34).toInt ≤ 20 := tz_485.1 34
            have q_494 := (((((((show (gI z_485 34).toInt = (gI z_433 34).toInt by rw [ez_485]; rfl)).trans (o_481.fi 34 (by decide))).trans (o_474.fi 34 (by decide))).trans (o_460.fi 34 (by decide))).trans (o_453.fi 34 (by decide))).trans (o_438.fi 34 (by decide))).trans (o_397.fi 34 (by decide))
            refine ⟨vin (a_add (a_mul (show (4 : Int32).toInt = 4 by decide) rfl (by omega) (by omega)) (show (1 : Int32).toInt = 1 by decide) (by omega) (by omega)) (by omega) (by omega), ?_⟩
            intro z_486 ez_486
            have tz_486 : TM z_486 := by rw [ez_486]; exact Ty_wR tz_485 trivial
            have oz_486 : Same [34, 37, 38, 39, 41, 42] [24] z z_486 := oz_485.r (by decide) ez_486
            have f_495 : 0 ≤ (gI z_486 34).toInt ∧ (gI z_486 34).toInt ≤ 20 := tz_486.1 34
            have q_496 := ((((((((show (gI z_486 34).toInt = (gI z_485 34).toInt by rw [ez_486]; rfl)).trans (show (gI z_485 34).toInt = (gI z_433 34).toInt by rw [ez_485]; rfl)).trans (o_481.fi 34 (by decide))).trans (o_474.fi 34 (by decide))).trans (o_460.fi 34 (by decide))).trans (o_453.fi 34 (by decide))).trans (o_438.fi 34 (by decide))).trans (o_397.fi 34 (by decide))
            refine ⟨vin (a_add (a_mul (show (4 : Int32).toInt = 4 by decide) rfl (by omega) (by omega)) (show (2 : Int32).toInt = 2 by decide) (by omega) (by omega)) (by omega) (by omega), ?_⟩
            intro z_487 ez_487
            have tz_487 : TM z_487 := by rw [ez_487]; exact Ty_wR tz_486 trivial
            have oz_487 : Same [34, 37, 38, 39, 41, 42] [24] z z_487 := oz_486.r (by decide) ez_487
            have f_497 : 0 ≤ (gI z_487 34).toInt ∧ (gI z_487 34).toInt ≤ 20 := tz_487.1 34
            have q_498 := (((((((((show (gI z_487 34).toInt = (gI z_486 34).toInt by rw [ez_487]; rfl)).trans (show (gI z_486 34).toInt = (gI z_485 34).toInt by rw [ez_486]; rfl)).trans (show (gI z_485 34).toInt = (gI z_433 34).toInt by rw [ez_485]; rfl)).trans (o_481.fi 34 (by decide))).trans (o_474.fi 34 (by decide))).trans (o_460.fi 34 (by decide))).trans (o_453.fi 34 (by decide))).trans (o_438.fi 34 (by decide))).trans (o_397.fi 34 (by decide))
            refine ⟨vin (a_add (a_mul (show (4 : Int32).toInt = 4 by decide) rfl (by omega) (by omega)) (show (3 : Int32).toInt = 3 by decide) (by omega) (by omega)) (by omega) (by omega), ?_⟩
            intro z_488 ez_488
            have tz_488 : TM z_488 := by rw [ez_488]; exact Ty_wR tz_487 trivial
            have oz_488 : Same [34, 37, 38, 39, 41, 42] [24] z z_488 := oz_487.r (by decide) ez_488
            intro z_489 ez_489
            have f_499 : 0 ≤ (gI z_488 34).toInt ∧ (gI z_488 34).toInt ≤ 20 := tz_488.1 34
            have q_500 := ((((((((((show (gI z_488 34).toInt = (gI z_487 34).toInt by rw [ez_488]; rfl)).trans (show (gI z_487 34).toInt = (gI z_486 34).toInt by rw [ez_487]; rfl)).trans (show (gI z_486 34).toInt = (gI z_485 34).toInt by rw [ez_486]; rfl)).trans (show (gI z_485 34).toInt = (gI z_433 34).toInt by rw [ez_485]; rfl)).trans (o_481.fi 34 (by decide))).trans (o_474.fi 34 (by decide))).trans (o_460.fi 34 (by decide))).trans (o_453.fi 34 (by decide))).trans (o_438.fi 34 (by decide))).trans (o_397.fi 34 (by decide))
            have tz_489 : TM z_489 := by rw [ez_489]; exact Ty_wI tz_488 (show 0 ≤ ((gI z_488 34) + (1 : Int32)).toInt ∧ ((gI z_488 34) + (1 : Int32)).toInt ≤ 20 from by rw [(a_add rfl (show (1 : Int32).toInt = 1 by decide) (by omega) (by omega))]; omega)
            have oz_489 : Same [34, 37, 38, 39, 41, 42] [24] z z_489 := oz_488.i (by decide) ez_489
            have f_501 : 0 ≤ (gI z_489 38).toInt ∧ (gI z_489 38).toInt ≤ 300 := tz_489.1 38
            have q_502 := (((((show (gI z_489 38).toInt = (gI z_488 38).toInt by rw [ez_489]; rfl)).trans (show (gI z_488 38).toInt = (gI z_487 38).toInt by rw [ez_488]; rfl)).trans (show (gI z_487 38).toInt = (gI z_486 38).toInt by rw [ez_487]; rfl)).trans (show (gI z_486 38).toInt = (gI z_485 38).toInt by rw [ez_486]; rfl)).trans (show (gI z_485 38).toInt = (gI z_433 38).toInt by rw [ez_485]; rfl)
            have f_503 : 0 ≤ (gI z_489 42).toInt ∧ (gI z_489 42).toInt ≤ 1 := tz_489.1 42
            have q_504 := (((((show (gI z_489 42).toInt = (gI z_488 42).toInt by rw [ez_489]; rfl)).trans (show (gI z_488 42).toInt = (gI z_487 42).toInt by rw [ez_488]; rfl)).trans (show (gI z_487 42).toInt = (gI z_486 42).toInt by rw [ez_487]; rfl)).trans (show (gI z_486 42).toInt = (gI z_485 42).toInt by rw [ez_486]; rfl)).trans (show (gI z_485 42).toInt = (gI z_433 42).toInt by rw [ez_485]; rfl)
            have f_505 : 0 ≤ (gI z_489 34).toInt ∧ (gI z_489 34).toInt ≤ 20 := tz_489.1 34
            have q_506 := (show (gI z_489 34).toInt = ((gI z_488 34) + (1 : Int32)).toInt by rw [ez_489]; rfl)
            have q_507 : ((gI z_488 34) + (1 : Int32)).toInt = ((gI z_488 34).toInt + (1)) := (a_add rfl (show (1 : Int32).toInt = 1 by decide) (by omega) (by omega))
            exact hk z_489 tz_489 oz_489 (by omega)
          · skip
            have i_508 := i_ne rfl (show (0 : Int32).toInt = 0 by decide) c_484
            have f_509 : 0 ≤ (gI z_433 34).toInt ∧ (gI z_433 34).toInt ≤ 20 := tz_433.1 34
            have q_510 := ((((((o_481.fi 34 (by decide))).trans (o_474.fi 34 (by decide))).trans (o_460.fi 34 (by decide))).trans (o_453.fi 34 (by decide))).trans (o_438.fi 34 (by decide))).trans (o_397.fi 34 (by decide))
            exact hk z_433 tz_433 oz_433 (by omega)
        · subst er_430
          have g_511 : (0 : Int32).toInt = 0 := by decide
          have f_512 : 0 ≤ (gI z_429 36).toInt ∧ (gI z_429 36).toInt ≤ 300 := tz_429.1 36
          have q_513 := ((((o_460.fi 36 (by decide))).trans (o_453.fi 36 (by decide))).trans (o_438.fi 36 (by decide))).trans (o_397.fi 36 (by decide))
          refine s_X9_must ((0 : Int32)) z_429 _ tz_429 (by omega) (fun z_431 tz_431 o_515 hp_514 => ?_)
          have oz_431 : Same [34, 37, 38, 39, 41, 42] [24] z z_431 := oz_429.tr o_515 (by decide) (by decide)
          have f_516 : 0 ≤ (gI z_431 38).toInt ∧ (gI z_431 38).toInt ≤ 300 := tz_431.1 38
          have f_517 : 0 ≤ (gI z_431 42).toInt ∧ (gI z_431 42).toInt ≤ 1 := tz_431.1 42
          have g_518 : (23 : Int64).toInt = 23 := by decide
          have f_519 : 0 ≤ (gI z_431 36).toInt ∧ (gI z_431 36).toInt ≤ 300 := tz_431.1 36
          have q_520 := (((((o_515.fi 36 (by decide))).trans (o_460.fi 36 (by decide))).trans (o_453.fi 36 (by decide))).trans (o_438.fi 36 (by decide))).trans (o_397.fi 36 (by decide))
          refine s_X9_number ((23 : Int64)) z_431 _ tz_431 (by omega) (fun r_432 z_433 tz_433 o_522 hp_521 => ?_)
          have oz_433 : Same [34, 37, 38, 39, 41, 42] [24] z z_433 := oz_431.tr o_522 (by decide) (by decide)
          have f_523 : 0 ≤ (gI z_433 38).toInt ∧ (gI z_433 38).toInt ≤ 300 := tz_433.1 38
          have f_524 : 0 ≤ (gI z_433 42).toInt ∧ (gI z_433 42).toInt ≤ 1 := tz_433.1 42
          refine hK_441 r_428 r_432 z_433 ?_
          refine ⟨fun c_525 => ?_, fun c_525 => ?_⟩
          · skip
            have i_531 := i_eq rfl (show (0 : Int32).toInt = 0 by decide) c_525
            have f_532 : 0 ≤ (gI z_433 34).toInt ∧ (gI z_433 34).toInt ≤ 20 := tz_433.1 34
            have q_533 := ((((((o_522.fi 34 (by decide))).trans (o_515.fi 34 (by decide))).trans (o_460.fi 34 (by decide))).trans (o_453.fi 34 (by decide))).trans (o_438.fi 34 (by decide))).trans (o_397.fi 34 (by decide))
            refine ⟨vin (a_mul (show (4 : Int32).toInt = 4 by decide) rfl (by omega) (by omega)) (by omega) (by omega), ?_⟩
            intro z_526 ez_526
            have tz_526 : TM z_526 := by rw [ez_526]; exact Ty_wR tz_433 trivial
            have oz_526 : Same [34, 37, 38, 39, 41, 42] [24] z z_526 := oz_433.r (by decide) ez_526
            have f_534 : 0 ≤ (gI z_526 34).toInt ∧ (gI z_526 34).toInt ≤ 20 := tz_526.1 34
            have q_535 := (((((((show (gI z_526 34).toInt = (gI z_433 34).toInt by rw [ez_526]; rfl)).trans (o_522.fi 34 (by decide))).trans (o_515.fi 34 (by decide))).trans (o_460.fi 34 (by decide))).trans (o_453.fi 34 (by decide))).trans (o_438.fi 34 (by decide))).trans (o_397.fi 34 (by decide))
            refine ⟨vin (a_add (a_mul (show (4 : Int32).toInt = 4 by decide) rfl (by omega) (by omega)) (show (1 : Int32).toInt = 1 by decide) (by omega) (by omega)) (by omega) (by omega), ?_⟩
            intro z_527 ez_527
            have tz_527 : TM z_527 := by rw [ez_527]; exact Ty_wR tz_526 trivial
            have oz_527 : Same [34, 37, 38, 39, 41, 42] [24] z z_527 := oz_526.r (by decide) ez_527
            have f_536 : 0 ≤ (gI z_527 34).toInt ∧ (gI z_527 34).toInt ≤ 20 := tz_527.1 34
            have q_537 := ((((((((show (gI z_527 34).toInt = (gI z_526 34).toInt by rw [ez_527]; rfl)).trans (show (gI z_526 34).toInt = (gI z_433 34).toInt by rw [ez_526]; rfl)).trans (o_522.fi 34 (by decide))).trans (o_515.fi 34 (by decide))).trans (o_460.fi 34 (by decide))).trans (o_453.fi 34 (by decide))).trans (o_438.fi 34 (by decide))).trans (o_397.fi 34 (by decide))
            refine ⟨vin (a_add (a_mul (show (4 : Int32).toInt = 4 by decide) rfl (by omega) (by omega)) (show (2 : Int32).toInt = 2 by decide) (by omega) (by omega)) (by omega) (by omega), ?_⟩
            intro z_528 ez_528
            have tz_528 : TM z_528 := by rw [ez_528]; exact Ty_wR tz_527 trivial
            have oz_528 : Same [34, 37, 38, 39, 41, 42] [24] z z_528 := oz_527.r (by decide) ez_528
            have f_538 : 0 ≤ (gI z_528 34).toInt ∧ (gI z_528 34).toInt ≤ 20 := tz_528.1 34
            have q_539 := (((((((((show (gI z_528 34).toInt = (gI z_527 34).toInt by rw [ez_528]; rfl)).trans (show (gI z_527 34).toInt = (gI z_526 34).toInt by rw [ez_527]; rfl)).trans (show (gI z_526 34).toInt = (gI z_433 34).toInt by rw [ez_526]; rfl)).trans (o_522.fi 34 (by decide))).trans (o_515.fi 34 (by decide))).trans (o_460.fi 34 (by decide))).trans (o_453.fi 34 (by decide))).trans (o_438.fi 34 (by decide))).trans (o_397.fi 34 (by decide))
            refine ⟨vin (a_add (a_mul (show (4 : Int32).toInt = 4 by decide) rfl (by omega) (by omega)) (show (3 : Int32).toInt = 3 by decide) (by omega) (by omega)) (by omega) (by omega), ?_⟩
            intro z_529 ez_529
            have tz_529 : TM z_529 := by rw [ez_529]; exact Ty_wR tz_528 trivial
            have oz_529 : Same [34, 37, 38, 39, 41, 42] [24] z z_529 := oz_528.r (by decide) ez_529
            intro z_530 ez_530
            have f_540 : 0 ≤ (gI z_529 34).toInt ∧ (gI z_529 34).toInt ≤ 20 := tz_529.1 34
            have q_541 := ((((((((((show (gI z_529 34).toInt = (gI z_528 34).toInt by rw [ez_529]; rfl)).trans (show (gI z_528 34).toInt = (gI z_527 34).toInt by rw [ez_528]; rfl)).trans (show (gI z_527 34).toInt = (gI z_526 34).toInt by rw [ez_527]; rfl)).trans (show (gI z_526 34).toInt = (gI z_433 34).toInt by rw [ez_526]; rfl)).trans (o_522.fi 34 (by decide))).trans (o_515.fi 34 (by decide))).trans (o_460.fi 34 (by decide))).trans (o_453.fi 34 (by decide))).trans (o_438.fi 34 (by decide))).trans (o_397.fi 34 (by decide))
            have tz_530 : TM z_530 := by rw [ez_530]; exact Ty_wI tz_529 (show 0 ≤ ((gI z_529 34) + (1 : Int32)).toInt ∧ ((gI z_529 34) + (1 : Int32)).toInt ≤ 20 from by rw [(a_add rfl (show (1 : Int32).toInt = 1 by decide) (by omega) (by omega))]; omega)
            have oz_530 : Same [34, 37, 38, 39, 41, 42] [24] z z_530 := oz_529.i (by decide) ez_530
            have f_542 : 0 ≤ (gI z_530 38).toInt ∧ (gI z_530 38).toInt ≤ 300 := tz_530.1 38
            have q_543 := (((((show (gI z_530 38).toInt = (gI z_529 38).toInt by rw [ez_530]; rfl)).trans (show (gI z_529 38).toInt = (gI z_528 38).toInt by rw [ez_529]; rfl)).trans (show (gI z_528 38).toInt = (gI z_527 38).toInt by rw [ez_528]; rfl)).trans (show (gI z_527 38).toInt = (gI z_526 38).toInt by rw [ez_527]; rfl)).trans (show (gI z_526 38).toInt = (gI z_433 38).toInt by rw [ez_526]; rfl)
            have f_544 : 0 ≤ (gI z_530 42).toInt ∧ (gI z_530 42).toInt ≤ 1 := tz_530.1 42
            have q_545 := (((((show (gI z_530 42).toInt = (gI z_529 42).toInt by rw [ez_530]; rfl)).trans (show (gI z_529 42).toInt = (gI z_528 42).toInt by rw [ez_529]; rfl)).trans (show (gI z_528 42).toInt = (gI z_527 42).toInt by rw [ez_528]; rfl)).trans (show (gI z_527 42).toInt = (gI z_526 42).toInt by rw [ez_527]; rfl)).trans (show (gI z_526 42).toInt = (gI z_433 42).toInt by rw [ez_526]; rfl)
            have f_546 : 0 ≤ (gI z_530 34).toInt ∧ (gI z_530 34).toInt ≤ 20 := tz_530.1 34
            have q_547 := (show (gI z_530 34).toInt = ((gI z_529 34) + (1 : Int32)).toInt by rw [ez_530]; rfl)
            have q_548 : ((gI z_529 34) + (1 : Int32)).toInt = ((gI z_529 34).toInt + (1)) := (a_add rfl (show (1 : Int32).toInt = 1 by decide) (by omega) (by omega))
            exact hk z_530 tz_530 oz_530 (by omega)
          · skip
            have i_549 := i_ne rfl (show (0 : Int32).toInt = 0 by decide) c_525
            have f_550 : 0 ≤ (gI z_433 34).toInt ∧ (gI z_433 34).toInt ≤ 20 := tz_433.1 34
            have q_551 := ((((((o_522.fi 34 (by decide))).trans (o_515.fi 34 (by decide))).trans (o_460.fi 34 (by decide))).trans (o_453.fi 34 (by decide))).trans (o_438.fi 34 (by decide))).trans (o_397.fi 34 (by decide))
            exact hk z_433 tz_433 oz_433 (by omega)
      · subst er_426
        have g_552 : (0 : Int32).toInt = 0 := by decide
        have f_553 : 0 ≤ (gI z_403 36).toInt ∧ (gI z_403 36).toInt ≤ 300 := tz_403.1 36
        have q_554 := ((o_438.fi 36 (by decide))).trans (o_397.fi 36 (by decide))
        refine s_X9_must ((0 : Int32)) z_403 _ tz_403 (by omega) (fun z_427 tz_427 o_556 hp_555 => ?_)
        have oz_427 : Same [34, 37, 38, 39, 41, 42] [24] z z_427 := oz_403.tr o_556 (by decide) (by decide)
        have f_557 : 0 ≤ (gI z_427 38).toInt ∧ (gI z_427 38).toInt ≤ 300 := tz_427.1 38
        have f_558 : 0 ≤ (gI z_427 42).toInt ∧ (gI z_427 42).toInt ≤ 1 := tz_427.1 42
        have g_559 : (23 : Int64).toInt = 23 := by decide
        have f_560 : 0 ≤ (gI z_427 36).toInt ∧ (gI z_427 36).toInt ≤ 300 := tz_427.1 36
        have q_561 := (((o_556.fi 36 (by decide))).trans (o_438.fi 36 (by decide))).trans (o_397.fi 36 (by decide))
        refine s_X9_number ((23 : Int64)) z_427 _ tz_427 (by omega) (fun r_428 z_429 tz_429 o_563 hp_562 => ?_)
        have oz_429 : Same [34, 37, 38, 39, 41, 42] [24] z z_429 := oz_427.tr o_563 (by decide) (by decide)
        have f_564 : 0 ≤ (gI z_429 38).toInt ∧ (gI z_429 38).toInt ≤ 300 := tz_429.1 38
        have f_565 : 0 ≤ (gI z_429 42).toInt ∧ (gI z_429 42).toInt ≤ 1 := tz_429.1 42
        have g_566 : (116 : Int32).toInt = 116 := by decide
        have g_567 : (111 : Int32).toInt = 111 := by decide
        have g_568 : (0 : Int32).toInt = 0 := by decide
        have g_569 : (0 : Int32).toInt = 0 := by decide
        have g_570 : (0 : Int32).toInt = 0 := by decide
        have g_571 : (0 : Int32).toInt = 0 := by decide
        refine s_X9_isWord ((116 : Int32)) ((111 : Int32)) ((0 : Int32)) ((0 : Int32)) ((0 : Int32)) ((0 : Int32)) z_429 _ tz_429  (fun r_430 hp_572 => ?_)
        rcases hp_572 with ⟨er_430, hp_572⟩ | ⟨er_430, hp_572⟩
        · subst er_430
          have g_573 : (1 : Int32).toInt = 1 := by decide
          have f_574 : 0 ≤ (gI z_429 36).toInt ∧ (gI z_429 36).toInt ≤ 300 := tz_429.1 36
          have q_575 := ((((o_563.fi 36 (by decide))).trans (o_556.fi 36 (by decide))).trans (o_438.fi 36 (by decide))).trans (o_397.fi 36 (by decide))
          refine s_X9_must ((1 : Int32)) z_429 _ tz_429 (by omega) (fun z_431 tz_431 o_577 hp_576 => ?_)
          have oz_431 : Same [34, 37, 38, 39, 41, 42] [24] z z_431 := oz_429.tr o_577 (by decide) (by decide)
          have f_578 : 0 ≤ (gI z_431 38).toInt ∧ (gI z_431 38).toInt ≤ 300 := tz_431.1 38
          have f_579 : 0 ≤ (gI z_431 42).toInt ∧ (gI z_431 42).toInt ≤ 1 := tz_431.1 42
          have g_580 : (23 : Int64).toInt = 23 := by decide
          have f_581 : 0 ≤ (gI z_431 36).toInt ∧ (gI z_431 36).toInt ≤ 300 := tz_431.1 36
          have q_582 := (((((o_577.fi 36 (by decide))).trans (o_563.fi 36 (by decide))).trans (o_556.fi 36 (by decide))).trans (o_438.fi 36 (by decide))).trans (o_397.fi 36 (by decide))
          refine s_X9_number ((23 : Int64)) z_431 _ tz_431 (by omega) (fun r_432 z_433 tz_433 o_584 hp_583 => ?_)
          have oz_433 : Same [34, 37, 38, 39, 41, 42] [24] z z_433 := oz_431.tr o_584 (by decide) (by decide)
          have f_585 : 0 ≤ (gI z_433 38).toInt ∧ (gI z_433 38).toInt ≤ 300 := tz_433.1 38
          have f_586 : 0 ≤ (gI z_433 42).toInt ∧ (gI z_433 42).toInt ≤ 1 := tz_433.1 42
          refine hK_441 r_428 r_432 z_433 ?_
          refine ⟨fun c_587 => ?_, fun c_587 => ?_⟩
          · skip
            have i_593 := i_eq rfl (show (0 : Int32).toInt = 0 by decide) c_587
            have f_594 : 0 ≤ (gI z_433 34).toInt ∧ (gI z_433 34).toInt ≤ 20 := tz_433.1 34
            have q_595 := ((((((o_584.fi 34 (by decide))).trans (o_577.fi 34 (by decide))).trans (o_563.fi 34 (by decide))).trans (o_556.fi 34 (by decide))).trans (o_438.fi 34 (by decide))).trans (o_397.fi 34 (by decide))
            refine ⟨vin (a_mul (show (4 : Int32).toInt = 4 by decide) rfl (by omega) (by omega)) (by omega) (by omega), ?_⟩
            intro z_588 ez_588
            have tz_588 : TM z_588 := by rw [ez_588]; exact Ty_wR tz_433 trivial
            have oz_588 : Same [34, 37, 38, 39, 41, 42] [24] z z_588 := oz_433.r (by decide) ez_588
            have f_596 : 0 ≤ (gI z_588 34).toInt ∧ (gI z_588 34).toInt ≤ 20 := tz_588.1 34
            have q_597 := (((((((show (gI z_588 34).toInt = (gI z_433 34).toInt by rw [ez_588]; rfl)).trans (o_584.fi 34 (by decide))).trans (o_577.fi 34 (by decide))).trans (o_563.fi 34 (by decide))).trans (o_556.fi 34 (by decide))).trans (o_438.fi 34 (by decide))).trans (o_397.fi 34 (by decide))
            refine ⟨vin (a_add (a_mul (show (4 : Int32).toInt = 4 by decide) rfl (by omega) (by omega)) (show (1 : Int32).toInt = 1 by decide) (by omega) (by omega)) (by omega) (by omega), ?_⟩
            intro z_589 ez_589
            have tz_589 : TM z_589 := by rw [ez_589]; exact Ty_wR tz_588 trivial
            have oz_589 : Same [34, 37, 38, 39, 41, 42] [24] z z_589 := oz_588.r (by decide) ez_589
            have f_598 : 0 ≤ (gI z_589 34).toInt ∧ (gI z_589 34).toInt ≤ 20 := tz_589.1 34
            have q_599 := ((((((((show (gI z_589 34).toInt = (gI z_588 34).toInt by rw [ez_589]; rfl)).trans (show (gI z_588 34).toInt = (gI z_433 34).toInt by rw [ez_588]; rfl)).trans (o_584.fi 34 (by decide))).trans (o_577.fi 34 (by decide))).trans (o_563.fi 34 (by decide))).trans (o_556.fi 34 (by decide))).trans (o_438.fi 34 (by decide))).trans (o_397.fi 34 (by decide))
            refine ⟨vin (a_add (a_mul (show (4 : Int32).toInt = 4 by decide) rfl (by omega) (by omega)) (show (2 : Int32).toInt = 2 by decide) (by omega) (by omega)) (by omega) (by omega), ?_⟩
            intro z_590 ez_590
            have tz_590 : TM z_590 := by rw [ez_590]; exact Ty_wR tz_589 trivial
            have oz_590 : Same [34, 37, 38, 39, 41, 42] [24] z z_590 := oz_589.r (by decide) ez_590
            have f_600 : 0 ≤ (gI z_590 34).toInt ∧ (gI z_590 34).toInt ≤ 20 := tz_590.1 34
            have q_601 := (((((((((show (gI z_590 34).toInt = (gI z_589 34).toInt by rw [ez_590]; rfl)).trans (show (gI z_589 34).toInt = (gI z_588 34).toInt by rw [ez_589]; rfl)).trans (show (gI z_588 34).toInt = (gI z_433 34).toInt by rw [ez_588]; rfl)).trans (o_584.fi 34 (by decide))).trans (o_577.fi 34 (by decide))).trans (o_563.fi 34 (by decide))).trans (o_556.fi 34 (by decide))).trans (o_438.fi 34 (by decide))).trans (o_397.fi 34 (by decide))
            refine ⟨vin (a_add (a_mul (show (4 : Int32).toInt = 4 by decide) rfl (by omega) (by omega)) (show (3 : Int32).toInt = 3 by decide) (by omega) (by omega)) (by omega) (by omega), ?_⟩
            intro z_591 ez_591
            have tz_591 : TM z_591 := by rw [ez_591]; exact Ty_wR tz_590 trivial
            have oz_591 : Same [34, 37, 38, 39, 41, 42] [24] z z_591 := oz_590.r (by decide) ez_591
            intro z_592 ez_592
            have f_602 : 0 ≤ (gI z_591 34).toInt ∧ (gI z_591 34).toInt ≤ 20 := tz_591.1 34
            have q_603 := ((((((((((show (gI z_591 34).toInt = (gI z_590 34).toInt by rw [ez_591]; rfl)).trans (show (gI z_590 34).toInt = (gI z_589 34).toInt by rw [ez_590]; rfl)).trans (show (gI z_589 34).toInt = (gI z_588 34).toInt by rw [ez_589]; rfl)).trans (show (gI z_588 34).toInt = (gI z_433 34).toInt by rw [ez_588]; rfl)).trans (o_584.fi 34 (by decide))).trans (o_577.fi 34 (by decide))).trans (o_563.fi 34 (by decide))).trans (o_556.fi 34 (by decide))).trans (o_438.fi 34 (by decide))).trans (o_397.fi 34 (by decide))
            have tz_592 : TM z_592 := by rw [ez_592]; exact Ty_wI tz_591 (show 0 ≤ ((gI z_591 34) + (1 : Int32)).toInt ∧ ((gI z_591 34) + (1 : Int32)).toInt ≤ 20 from by rw [(a_add rfl (show (1 : Int32).toInt = 1 by decide) (by omega) (by omega))]; omega)
            have oz_592 : Same [34, 37, 38, 39, 41, 42] [24] z z_592 := oz_591.i (by decide) ez_592
            have f_604 : 0 ≤ (gI z_592 38).toInt ∧ (gI z_592 38).toInt ≤ 300 := tz_592.1 38
            have q_605 := (((((show (gI z_592 38).toInt = (gI z_591 38).toInt by rw [ez_592]; rfl)).trans (show (gI z_591 38).toInt = (gI z_590 38).toInt by rw [ez_591]; rfl)).trans (show (gI z_590 38).toInt = (gI z_589 38).toInt by rw [ez_590]; rfl)).trans (show (gI z_589 38).toInt = (gI z_588 38).toInt by rw [ez_589]; rfl)).trans (show (gI z_588 38).toInt = (gI z_433 38).toInt by rw [ez_588]; rfl)
            have f_606 : 0 ≤ (gI z_592 42).toInt ∧ (gI z_592 42).toInt ≤ 1 := tz_592.1 42
            have q_607 := (((((show (gI z_592 42).toInt = (gI z_591 42).toInt by rw [ez_592]; rfl)).trans (show (gI z_591 42).toInt = (gI z_590 42).toInt by rw [ez_591]; rfl)).trans (show (gI z_590 42).toInt = (gI z_589 42).toInt by rw [ez_590]; rfl)).trans (show (gI z_589 42).toInt = (gI z_588 42).toInt by rw [ez_589]; rfl)).trans (show (gI z_588 42).toInt = (gI z_433 42).toInt by rw [ez_588]; rfl)
            have f_608 : 0 ≤ (gI z_592 34).toInt ∧ (gI z_592 34).toInt ≤ 20 := tz_592.1 34
            have q_609 := (show (gI z_592 34).toInt = ((gI z_591 34) + (1 : Int32)).toInt by rw [ez_592]; rfl)
            have q_610 : ((gI z_591 34) + (1 : Int32)).toInt = ((gI z_591 34).toInt + (1)) := (a_add rfl (show (1 : Int32).toInt = 1 by decide) (by omega) (by omega))
            exact hk z_592 tz_592 oz_592 (by omega)
          · skip
            have i_611 := i_ne rfl (show (0 : Int32).toInt = 0 by decide) c_587
            have f_612 : 0 ≤ (gI z_433 34).toInt ∧ (gI z_433 34).toInt ≤ 20 := tz_433.1 34
            have q_613 := ((((((o_584.fi 34 (by decide))).trans (o_577.fi 34 (by decide))).trans (o_563.fi 34 (by decide))).trans (o_556.fi 34 (by decide))).trans (o_438.fi 34 (by decide))).trans (o_397.fi 34 (by decide))
            exact hk z_433 tz_433 oz_433 (by omega)
        · subst er_430
          have g_614 : (0 : Int32).toInt = 0 := by decide
          have f_615 : 0 ≤ (gI z_429 36).toInt ∧ (gI z_429 36).toInt ≤ 300 := tz_429.1 36
          have q_616 := ((((o_563.fi 36 (by decide))).trans (o_556.fi 36 (by decide))).trans (o_438.fi 36 (by decide))).trans (o_397.fi 36 (by decide))
          refine s_X9_must ((0 : Int32)) z_429 _ tz_429 (by omega) (fun z_431 tz_431 o_618 hp_617 => ?_)
          have oz_431 : Same [34, 37, 38, 39, 41, 42] [24] z z_431 := oz_429.tr o_618 (by decide) (by decide)
          have f_619 : 0 ≤ (gI z_431 38).toInt ∧ (gI z_431 38).toInt ≤ 300 := tz_431.1 38
          have f_620 : 0 ≤ (gI z_431 42).toInt ∧ (gI z_431 42).toInt ≤ 1 := tz_431.1 42
          have g_621 : (23 : Int64).toInt = 23 := by decide
          have f_622 : 0 ≤ (gI z_431 36).toInt ∧ (gI z_431 36).toInt ≤ 300 := tz_431.1 36
          have q_623 := (((((o_618.fi 36 (by decide))).trans (o_563.fi 36 (by decide))).trans (o_556.fi 36 (by decide))).trans (o_438.fi 36 (by decide))).trans (o_397.fi 36 (by decide))
          refine s_X9_number ((23 : Int64)) z_431 _ tz_431 (by omega) (fun r_432 z_433 tz_433 o_625 hp_624 => ?_)
          have oz_433 : Same [34, 37, 38, 39, 41, 42] [24] z z_433 := oz_431.tr o_625 (by decide) (by decide)
          have f_626 : 0 ≤ (gI z_433 38).toInt ∧ (gI z_433 38).toInt ≤ 300 := tz_433.1 38
          have f_627 : 0 ≤ (gI z_433 42).toInt ∧ (gI z_433 42).toInt ≤ 1 := tz_433.1 42
          refine hK_441 r_428 r_432 z_433 ?_
          refine ⟨fun c_628 => ?_, fun c_628 => ?_⟩
          · skip
            have i_634 := i_eq rfl (show (0 : Int32).toInt = 0 by decide) c_628
            have f_635 : 0 ≤ (gI z_433 34).toInt ∧ (gI z_433 34).toInt ≤ 20 := tz_433.1 34
            have q_636 := ((((((o_625.fi 34 (by decide))).trans (o_618.fi 34 (by decide))).trans (o_563.fi 34 (by decide))).trans (o_556.fi 34 (by decide))).trans (o_438.fi 34 (by decide))).trans (o_397.fi 34 (by decide))
            refine ⟨vin (a_mul (show (4 : Int32).toInt = 4 by decide) rfl (by omega) (by omega)) (by omega) (by omega), ?_⟩
            intro z_629 ez_629
            have tz_629 : TM z_629 := by rw [ez_629]; exact Ty_wR tz_433 trivial
            have oz_629 : Same [34, 37, 38, 39, 41, 42] [24] z z_629 := oz_433.r (by decide) ez_629
            have f_637 : 0 ≤ (gI z_629 34).toInt ∧ (gI z_629 34).toInt ≤ 20 := tz_629.1 34
            have q_638 := (((((((show (gI z_629 34).toInt = (gI z_433 34).toInt by rw [ez_629]; rfl)).trans (o_625.fi 34 (by decide))).trans (o_618.fi 34 (by decide))).trans (o_563.fi 34 (by decide))).trans (o_556.fi 34 (by decide))).trans (o_438.fi 34 (by decide))).trans (o_397.fi 34 (by decide))
            refine ⟨vin (a_add (a_mul (show (4 : Int32).toInt = 4 by decide) rfl (by omega) (by omega)) (show (1 : Int32).toInt = 1 by decide) (by omega) (by omega)) (by omega) (by omega), ?_⟩
            intro z_630 ez_630
            have tz_630 : TM z_630 := by rw [ez_630]; exact Ty_wR tz_629 trivial
            have oz_630 : Same [34, 37, 38, 39, 41, 42] [24] z z_630 := oz_629.r (by decide) ez_630
            have f_639 : 0 ≤ (gI z_630 34).toInt ∧ (gI z_630 34).toInt ≤ 20 := tz_630.1 34
            have q_640 := ((((((((show (gI z_630 34).toInt = (gI z_629 34).toInt by rw [ez_630]; rfl)).trans (show (gI z_629 34).toInt = (gI z_433 34).toInt by rw [ez_629]; rfl)).trans (o_625.fi 34 (by decide))).trans (o_618.fi 34 (by decide))).trans (o_563.fi 34 (by decide))).trans (o_556.fi 34 (by decide))).trans (o_438.fi 34 (by decide))).trans (o_397.fi 34 (by decide))
            refine ⟨vin (a_add (a_mul (show (4 : Int32).toInt = 4 by decide) rfl (by omega) (by omega)) (show (2 : Int32).toInt = 2 by decide) (by omega) (by omega)) (by omega) (by omega), ?_⟩
            intro z_631 ez_631
            have tz_631 : TM z_631 := by rw [ez_631]; exact Ty_wR tz_630 trivial
            have oz_631 : Same [34, 37, 38, 39, 41, 42] [24] z z_631 := oz_630.r (by decide) ez_631
            have f_641 : 0 ≤ (gI z_631 34).toInt ∧ (gI z_631 34).toInt ≤ 20 := tz_631.1 34
            have q_642 := (((((((((show (gI z_631 34).toInt = (gI z_630 34).toInt by rw [ez_631]; rfl)).trans (show (gI z_630 34).toInt = (gI z_629 34).toInt by rw [ez_630]; rfl)).trans (show (gI z_629 34).toInt = (gI z_433 34).toInt by rw [ez_629]; rfl)).trans (o_625.fi 34 (by decide))).trans (o_618.fi 34 (by decide))).trans (o_563.fi 34 (by decide))).trans (o_556.fi 34 (by decide))).trans (o_438.fi 34 (by decide))).trans (o_397.fi 34 (by decide))
            refine ⟨vin (a_add (a_mul (show (4 : Int32).toInt = 4 by decide) rfl (by omega) (by omega)) (show (3 : Int32).toInt = 3 by decide) (by omega) (by omega)) (by omega) (by omega), ?_⟩
            intro z_632 ez_632
            have tz_632 : TM z_632 := by rw [ez_632]; exact Ty_wR tz_631 trivial
            have oz_632 : Same [34, 37, 38, 39, 41, 42] [24] z z_632 := oz_631.r (by decide) ez_632
            intro z_633 ez_633
            have f_643 : 0 ≤ (gI z_632 34).toInt ∧ (gI z_632 34).toInt ≤ 20 := tz_632.1 34
            have q_644 := ((((((((((show (gI z_632 34).toInt = (gI z_631 34).toInt by rw [ez_632]; rfl)).trans (show (gI z_631 34).toInt = (gI z_630 34).toInt by rw [ez_631]; rfl)).trans (show (gI z_630 34).toInt = (gI z_629 34).toInt by rw [ez_630]; rfl)).trans (show (gI z_629 34).toInt = (gI z_433 34).toInt by rw [ez_629]; rfl)).trans (o_625.fi 34 (by decide))).trans (o_618.fi 34 (by decide))).trans (o_563.fi 34 (by decide))).trans (o_556.fi 34 (by decide))).trans (o_438.fi 34 (by decide))).trans (o_397.fi 34 (by decide))
            have tz_633 : TM z_633 := by rw [ez_633]; exact Ty_wI tz_632 (show 0 ≤ ((gI z_632 34) + (1 : Int32)).toInt ∧ ((gI z_632 34) + (1 : Int32)).toInt ≤ 20 from by rw [(a_add rfl (show (1 : Int32).toInt = 1 by decide) (by omega) (by omega))]; omega)
            have oz_633 : Same [34, 37, 38, 39, 41, 42] [24] z z_633 := oz_632.i (by decide) ez_633
            have f_645 : 0 ≤ (gI z_633 38).toInt ∧ (gI z_633 38).toInt ≤ 300 := tz_633.1 38
            have q_646 := (((((show (gI z_633 38).toInt = (gI z_632 38).toInt by rw [ez_633]; rfl)).trans (show (gI z_632 38).toInt = (gI z_631 38).toInt by rw [ez_632]; rfl)).trans (show (gI z_631 38).toInt = (gI z_630 38).toInt by rw [ez_631]; rfl)).trans (show (gI z_630 38).toInt = (gI z_629 38).toInt by rw [ez_630]; rfl)).trans (show (gI z_629 38).toInt = (gI z_433 38).toInt by rw [ez_629]; rfl)
            have f_647 : 0 ≤ (gI z_633 42).toInt ∧ (gI z_633 42).toInt ≤ 1 := tz_633.1 42
            have q_648 := (((((show (gI z_633 42).toInt = (gI z_632 42).toInt by rw [ez_633]; rfl)).trans (show (gI z_632 42).toInt = (gI z_631 42).toInt by rw [ez_632]; rfl)).trans (show (gI z_631 42).toInt = (gI z_630 42).toInt by rw [ez_631]; rfl)).trans (show (gI z_630 42).toInt = (gI z_629 42).toInt by rw [ez_630]; rfl)).trans (show (gI z_629 42).toInt = (gI z_433 42).toInt by rw [ez_629]; rfl)
            have f_649 : 0 ≤ (gI z_633 34).toInt ∧ (gI z_633 34).toInt ≤ 20 := tz_633.1 34
            have q_650 := (show (gI z_633 34).toInt = ((gI z_632 34) + (1 : Int32)).toInt by rw [ez_633]; rfl)
            have q_651 : ((gI z_632 34) + (1 : Int32)).toInt = ((gI z_632 34).toInt + (1)) := (a_add rfl (show (1 : Int32).toInt = 1 by decide) (by omega) (by omega))
            exact hk z_633 tz_633 oz_633 (by omega)
          · skip
            have i_652 := i_ne rfl (show (0 : Int32).toInt = 0 by decide) c_628
            have f_653 : 0 ≤ (gI z_433 34).toInt ∧ (gI z_433 34).toInt ≤ 20 := tz_433.1 34
            have q_654 := ((((((o_625.fi 34 (by decide))).trans (o_618.fi 34 (by decide))).trans (o_563.fi 34 (by decide))).trans (o_556.fi 34 (by decide))).trans (o_438.fi 34 (by decide))).trans (o_397.fi 34 (by decide))
            exact hk z_433 tz_433 oz_433 (by omega)
  · subst er2
    intro K4 hK_655
    refine ⟨fun _ => ?_, fun hc => absurd (show ((0 : Int32)) = ((0 : Int32)) by decide) hc⟩
    have g_656 : (100 : Int32).toInt = 100 := by decide
    have g_657 : (101 : Int32).toInt = 101 := by decide
    have g_658 : (97 : Int32).toInt = 97 := by decide
    have g_659 : (114 : Int32).toInt = 114 := by decide
    have g_660 : (0 : Int32).toInt = 0 := by decide
    have g_661 : (0 : Int32).toInt = 0 := by decide
    refine s_X9_isWord ((100 : Int32)) ((101 : Int32)) ((97 : Int32)) ((114 : Int32)) ((0 : Int32)) ((0 : Int32)) z _ ht  (fun r57 hp_662 => ?_)
    rcases hp_662 with ⟨er57, hp_662⟩ | ⟨er57, hp_662⟩
    · subst er57
      refine ⟨fun hc => absurd hc (by decide), fun _ => ?_⟩
      refine hK_655 ((1 : Int32)) ?_
      intro K_663 hK_705
      intro K_702 hK_706
      refine ⟨fun hc => absurd hc (by decide), fun _ => ?_⟩
      refine ⟨fun c_704 => ?_, fun c_704 => ?_⟩
      · skip
        have f_707 : 0 ≤ (gI z 34).toInt ∧ (gI z 34).toInt ≤ 20 := ht.1 34
        have i_708 := i_le (show (20 : Int32).toInt = 20 by decide) rfl c_704
        refine hK_706  ?_
        refine hK_705 ((0 : Int32)) ?_
        have g_746 : (0 : Int32).toInt = 0 := by decide
        have f_747 : 0 ≤ (gI z 38).toInt ∧ (gI z 38).toInt ≤ 300 := ht.1 38
        have f_748 : 0 ≤ (gI z 36).toInt ∧ (gI z 36).toInt ≤ 300 := ht.1 36
        refine s_X9_must ((0 : Int32)) z _ ht (by omega) (fun z_709 tz_709 o_750 hp_749 => ?_)
        have oz_709 : Same [34, 37, 38, 39, 41, 42] [24] z z_709 := (Same.rf (z := z)).tr o_750 (by decide) (by decide)
        have f_751 : 0 ≤ (gI z_709 38).toInt ∧ (gI z_709 38).toInt ≤ 300 := tz_709.1 38
        have f_752 : 0 ≤ (gI z_709 42).toInt ∧ (gI z_709 42).toInt ≤ 1 := tz_709.1 42
        have f_753 : 0 ≤ (gI z 42).toInt ∧ (gI z 42).toInt ≤ 1 := ht.1 42
        intro K_710 hK_754
        refine ⟨fun _ => ?_, fun hc => absurd hc (by decide)⟩
        refine ⟨fun hc => absurd hc (by decide), fun _ => ?_⟩
        refine hK_754 ((10000 : Int64)) ?_
        have g_787 : (10000 : Int64).toInt = 10000 := by decide
        have f_788 : 0 ≤ (gI z_709 36).toInt ∧ (gI z_709 36).toInt ≤ 300 := tz_709.1 36
        have q_789 := (o_750.fi 36 (by decide))
        refine s_X9_number ((10000 : Int64)) z_709 _ tz_709 (by omega) (fun r_755 z_756 tz_756 o_791 hp_790 => ?_)
        have oz_756 : Same [34, 37, 38, 39, 41, 42] [24] z z_756 := oz_709.tr o_791 (by decide) (by decide)
        have f_792 : 0 ≤ (gI z_756 38).toInt ∧ (gI z_756 38).toInt ≤ 300 := tz_756.1 38
        have f_793 : 0 ≤ (gI z_756 42).toInt ∧ (gI z_756 42).toInt ≤ 1 := tz_756.1 42
        intro K_757 hK_794
        refine ⟨fun _ => ?_, fun hc => absurd hc (by decide)⟩
        refine ⟨fun _ => ?_, fun hc => absurd hc (by decide)⟩
        refine hK_794 ((0 : Int32)) ((0 : Int32)) z_756 ?_
        refine ⟨fun c_795 => ?_, fun c_795 => ?_⟩
        · skip
          have i_801 := i_eq rfl (show (0 : Int32).toInt = 0 by decide) c_795
          have f_802 : 0 ≤ (gI z_756 34).toInt ∧ (gI z_756 34).toInt ≤ 20 := tz_756.1 34
          have q_803 := ((o_791.fi 34 (by decide))).trans (o_750.fi 34 (by decide))
          refine ⟨vin (a_mul (show (4 : Int32).toInt = 4 by decide) rfl (by omega) (by omega)) (by omega) (by omega), ?_⟩
          intro z_796 ez_796
          have tz_796 : TM z_796 := by rw [ez_796]; exact Ty_wR tz_756 trivial
          have oz_796 : Same [34, 37, 38, 39, 41, 42] [24] z z_796 := oz_756.r (by decide) ez_796
          have f_804 : 0 ≤ (gI z_796 34).toInt ∧ (gI z_796 34).toInt ≤ 20 := tz_796.1 34
          have q_805 := (((show (gI z_796 34).toInt = (gI z_756 34).toInt by rw [ez_796]; rfl)).trans (o_791.fi 34 (by decide))).trans (o_750.fi 34 (by decide))
          refine ⟨vin (a_add (a_mul (show (4 : Int32).toInt = 4 by decide) rfl (by omega) (by omega)) (show (1 : Int32).toInt = 1 by decide) (by omega) (by omega)) (by omega) (by omega), ?_⟩
          intro z_797 ez_797
          have tz_797 : TM z_797 := by rw [ez_797]; exact Ty_wR tz_796 trivial
          have oz_797 : Same [34, 37, 38, 39, 41, 42] [24] z z_797 := oz_796.r (by decide) ez_797
          have f_806 : 0 ≤ (gI z_797 34).toInt ∧ (gI z_797 34).toInt ≤ 20 := tz_797.1 34
          have q_807 := ((((show (gI z_797 34).toInt = (gI z_796 34).toInt by rw [ez_797]; rfl)).trans (show (gI z_796 34).toInt = (gI z_756 34).toInt by rw [ez_796]; rfl)).trans (o_791.fi 34 (by decide))).trans (o_750.fi 34 (by decide))
          refine ⟨vin (a_add (a_mul (show (4 : Int32).toInt = 4 by decide) rfl (by omega) (by omega)) (show (2 : Int32).toInt = 2 by decide) (by omega) (by omega)) (by omega) (by omega), ?_⟩
          intro z_798 ez_798
          have tz_798 : TM z_798 := by rw [ez_798]; exact Ty_wR tz_797 trivial
          have oz_798 : Same [34, 37, 38, 39, 41, 42] [24] z z_798 := oz_797.r (by decide) ez_798
          have f_808 : 0 ≤ (gI z_798 34).toInt ∧ (gI z_798 34).toInt ≤ 20 := tz_798.1 34
          have q_809 := (((((show (gI z_798 34).toInt = (gI z_797 34).toInt by rw [ez_798]; rfl)).trans (show (gI z_797 34).toInt = (gI z_796 34).toInt by rw [ez_797]; rfl)).trans (show (gI z_796 34).toInt = (gI z_756 34).toInt by rw [ez_796]; rfl)).trans (o_791.fi 34 (by decide))).trans (o_750.fi 34 (by decide))
          refine ⟨vin (a_add (a_mul (show (4 : Int32).toInt = 4 by decide) rfl (by omega) (by omega)) (show (3 : Int32).toInt = 3 by decide) (by omega) (by omega)) (by omega) (by omega), ?_⟩
          intro z_799 ez_799
          have tz_799 : TM z_799 := by rw [ez_799]; exact Ty_wR tz_798 trivial
          have oz_799 : Same [34, 37, 38, 39, 41, 42] [24] z z_799 := oz_798.r (by decide) ez_799
          intro z_800 ez_800
          have f_810 : 0 ≤ (gI z_799 34).toInt ∧ (gI z_799 34).toInt ≤ 20 := tz_799.1 34
          have q_811 := ((((((show (gI z_799 34).toInt = (gI z_798 34).toInt by rw [ez_799]; rfl)).trans (show (gI z_798 34).toInt = (gI z_797 34).toInt by rw [ez_798]; rfl)).trans (show (gI z_797 34).toInt = (gI z_796 34).toInt by rw [ez_797]; rfl)).trans (show (gI z_796 34).toInt = (gI z_756 34).toInt by rw [ez_796]; rfl)).trans (o_791.fi 34 (by decide))).trans (o_750.fi 34 (by decide))
          have tz_800 : TM z_800 := by rw [ez_800]; exact Ty_wI tz_799 (show 0 ≤ ((gI z_799 34) + (1 : Int32)).toInt ∧ ((gI z_799 34) + (1 : Int32)).toInt ≤ 20 from by rw [(a_add rfl (show (1 : Int32).toInt = 1 by decide) (by omega) (by omega))]; omega)
          have oz_800 : Same [34, 37, 38, 39, 41, 42] [24] z z_800 := oz_799.i (by decide) ez_800
          have f_812 : 0 ≤ (gI z_800 38).toInt ∧ (gI z_800 38).toInt ≤ 300 := tz_800.1 38
          have q_813 := (((((show (gI z_800 38).toInt = (gI z_799 38).toInt by rw [ez_800]; rfl)).trans (show (gI z_799 38).toInt = (gI z_798 38).toInt by rw [ez_799]; rfl)).trans (show (gI z_798 38).toInt = (gI z_797 38).toInt by rw [ez_798]; rfl)).trans (show (gI z_797 38).toInt = (gI z_796 38).toInt by rw [ez_797]; rfl)).trans (show (gI z_796 38).toInt = (gI z_756 38).toInt by rw [ez_796]; rfl)
          have f_814 : 0 ≤ (gI z_800 42).toInt ∧ (gI z_800 42).toInt ≤ 1 := tz_800.1 42
          have q_815 := (((((show (gI z_800 42).toInt = (gI z_799 42).toInt by rw [ez_800]; rfl)).trans (show (gI z_799 42).toInt = (gI z_798 42).toInt by rw [ez_799]; rfl)).trans (show (gI z_798 42).toInt = (gI z_797 42).toInt by rw [ez_798]; rfl)).trans (show (gI z_797 42).toInt = (gI z_796 42).toInt by rw [ez_797]; rfl)).trans (show (gI z_796 42).toInt = (gI z_756 42).toInt by rw [ez_796]; rfl)
          have f_816 : 0 ≤ (gI z_800 34).toInt ∧ (gI z_800 34).toInt ≤ 20 := tz_800.1 34
          have q_817 := (show (gI z_800 34).toInt = ((gI z_799 34) + (1 : Int32)).toInt by rw [ez_800]; rfl)
          have q_818 : ((gI z_799 34) + (1 : Int32)).toInt = ((gI z_799 34).toInt + (1)) := (a_add rfl (show (1 : Int32).toInt = 1 by decide) (by omega) (by omega))
          exact hk z_800 tz_800 oz_800 (by omega)
        · skip
          have i_819 := i_ne rfl (show (0 : Int32).toInt = 0 by decide) c_795
          have f_820 : 0 ≤ (gI z_756 34).toInt ∧ (gI z_756 34).toInt ≤ 20 := tz_756.1 34
          have q_821 := ((o_791.fi 34 (by decide))).trans (o_750.fi 34 (by decide))
          exact hk z_756 tz_756 oz_756 (by omega)
      · skip
        have f_822 : 0 ≤ (gI z 34).toInt ∧ (gI z 34).toInt ≤ 20 := ht.1 34
        have i_823 := i_nle (show (20 : Int32).toInt = 20 by decide) rfl c_704
        refine hK_705 ((1 : Int32)) ?_
        have g_861 : (1 : Int32).toInt = 1 := by decide
        have f_862 : 0 ≤ (gI z 38).toInt ∧ (gI z 38).toInt ≤ 300 := ht.1 38
        have f_863 : 0 ≤ (gI z 36).toInt ∧ (gI z 36).toInt ≤ 300 := ht.1 36
        refine s_X9_must ((1 : Int32)) z _ ht (by omega) (fun z_824 tz_824 o_865 hp_864 => ?_)
        have oz_824 : Same [34, 37, 38, 39, 41, 42] [24] z z_824 := (Same.rf (z := z)).tr o_865 (by decide) (by decide)
        have f_866 : 0 ≤ (gI z_824 38).toInt ∧ (gI z_824 38).toInt ≤ 300 := tz_824.1 38
        have f_867 : 0 ≤ (gI z_824 42).toInt ∧ (gI z_824 42).toInt ≤ 1 := tz_824.1 42
        have f_868 : 0 ≤ (gI z 42).toInt ∧ (gI z 42).toInt ≤ 1 := ht.1 42
        intro K_825 hK_869
        refine ⟨fun _ => ?_, fun hc => absurd hc (by decide)⟩
        refine ⟨fun hc => absurd hc (by decide), fun _ => ?_⟩
        refine hK_869 ((10000 : Int64)) ?_
        have g_902 : (10000 : Int64).toInt = 10000 := by decide
        have f_903 : 0 ≤ (gI z_824 36).toInt ∧ (gI z_824 36).toInt ≤ 300 := tz_824.1 36
        have q_904 := (o_865.fi 36 (by decide))
        refine s_X9_number ((10000 : Int64)) z_824 _ tz_824 (by omega) (fun r_870 z_871 tz_871 o_906 hp_905 => ?_)
        have oz_871 : Same [34, 37, 38, 39, 41, 42] [24] z z_871 := oz_824.tr o_906 (by decide) (by decide)
        have f_907 : 0 ≤ (gI z_871 38).toInt ∧ (gI z_871 38).toInt ≤ 300 := tz_871.1 38
        have f_908 : 0 ≤ (gI z_871 42).toInt ∧ (gI z_871 42).toInt ≤ 1 := tz_871.1 42
        intro K_872 hK_909
        refine ⟨fun _ => ?_, fun hc => absurd hc (by decide)⟩
        refine ⟨fun _ => ?_, fun hc => absurd hc (by decide)⟩
        refine hK_909 ((0 : Int32)) ((0 : Int32)) z_871 ?_
        refine ⟨fun c_910 => ?_, fun c_910 => ?_⟩
        · skip
          have i_916 := i_eq rfl (show (0 : Int32).toInt = 0 by decide) c_910
          have f_917 : 0 ≤ (gI z_871 34).toInt ∧ (gI z_871 34).toInt ≤ 20 := tz_871.1 34
          have q_918 := ((o_906.fi 34 (by decide))).trans (o_865.fi 34 (by decide))
          refine ⟨vin (a_mul (show (4 : Int32).toInt = 4 by decide) rfl (by omega) (by omega)) (by omega) (by omega), ?_⟩
          intro z_911 ez_911
          have tz_911 : TM z_911 := by rw [ez_911]; exact Ty_wR tz_871 trivial
          have oz_911 : Same [34, 37, 38, 39, 41, 42] [24] z z_911 := oz_871.r (by decide) ez_911
          have f_919 : 0 ≤ (gI z_911 34).toInt ∧ (gI z_911 34).toInt ≤ 20 := tz_911.1 34
          have q_920 := (((show (gI z_911 34).toInt = (gI z_871 34).toInt by rw [ez_911]; rfl)).trans (o_906.fi 34 (by decide))).trans (o_865.fi 34 (by decide))
          refine ⟨vin (a_add (a_mul (show (4 : Int32).toInt = 4 by decide) rfl (by omega) (by omega)) (show (1 : Int32).toInt = 1 by decide) (by omega) (by omega)) (by omega) (by omega), ?_⟩
          intro z_912 ez_912
          have tz_912 : TM z_912 := by rw [ez_912]; exact Ty_wR tz_911 trivial
          have oz_912 : Same [34, 37, 38, 39, 41, 42] [24] z z_912 := oz_911.r (by decide) ez_912
          have f_921 : 0 ≤ (gI z_912 34).toInt ∧ (gI z_912 34).toInt ≤ 20 := tz_912.1 34
          have q_922 := ((((show (gI z_912 34).toInt = (gI z_911 34).toInt by rw [ez_912]; rfl)).trans (show (gI z_911 34).toInt = (gI z_871 34).toInt by rw [ez_911]; rfl)).trans (o_906.fi 34 (by decide))).trans (o_865.fi 34 (by decide))
          refine ⟨vin (a_add (a_mul (show (4 : Int32).toInt = 4 by decide) rfl (by omega) (by omega)) (show (2 : Int32).toInt = 2 by decide) (by omega) (by omega)) (by omega) (by omega), ?_⟩
          intro z_913 ez_913
          have tz_913 : TM z_913 := by rw [ez_913]; exact Ty_wR tz_912 trivial
          have oz_913 : Same [34, 37, 38, 39, 41, 42] [24] z z_913 := oz_912.r (by decide) ez_913
          have f_923 : 0 ≤ (gI z_913 34).toInt ∧ (gI z_913 34).toInt ≤ 20 := tz_913.1 34
          have q_924 := (((((show (gI z_913 34).toInt = (gI z_912 34).toInt by rw [ez_913]; rfl)).trans (show (gI z_912 34).toInt = (gI z_911 34).toInt by rw [ez_912]; rfl)).trans (show (gI z_911 34).toInt = (gI z_871 34).toInt by rw [ez_911]; rfl)).trans (o_906.fi 34 (by decide))).trans (o_865.fi 34 (by decide))
          refine ⟨vin (a_add (a_mul (show (4 : Int32).toInt = 4 by decide) rfl (by omega) (by omega)) (show (3 : Int32).toInt = 3 by decide) (by omega) (by omega)) (by omega) (by omega), ?_⟩
          intro z_914 ez_914
          have tz_914 : TM z_914 := by rw [ez_914]; exact Ty_wR tz_913 trivial
          have oz_914 : Same [34, 37, 38, 39, 41, 42] [24] z z_914 := oz_913.r (by decide) ez_914
          intro z_915 ez_915
          have f_925 : 0 ≤ (gI z_914 34).toInt ∧ (gI z_914 34).toInt ≤ 20 := tz_914.1 34
          have q_926 := ((((((show (gI z_914 34).toInt = (gI z_913 34).toInt by rw [ez_914]; rfl)).trans (show (gI z_913 34).toInt = (gI z_912 34).toInt by rw [ez_913]; rfl)).trans (show (gI z_912 34).toInt = (gI z_911 34).toInt by rw [ez_912]; rfl)).trans (show (gI z_911 34).toInt = (gI z_871 34).toInt by rw [ez_911]; rfl)).trans (o_906.fi 34 (by decide))).trans (o_865.fi 34 (by decide))
          have tz_915 : TM z_915 := by rw [ez_915]; exact Ty_wI tz_914 (show 0 ≤ ((gI z_914 34) + (1 : Int32)).toInt ∧ ((gI z_914 34) + (1 : Int32)).toInt ≤ 20 from by rw [(a_add rfl (show (1 : Int32).toInt = 1 by decide) (by omega) (by omega))]; omega)
          have oz_915 : Same [34, 37, 38, 39, 41, 42] [24] z z_915 := oz_914.i (by decide) ez_915
          have f_927 : 0 ≤ (gI z_915 38).toInt ∧ (gI z_915 38).toInt ≤ 300 := tz_915.1 38
          have q_928 := (((((show (gI z_915 38).toInt = (gI z_914 38).toInt by rw [ez_915]; rfl)).trans (show (gI z_914 38).toInt = (gI z_913 38).toInt by rw [ez_914]; rfl)).trans (show (gI z_913 38).toInt = (gI z_912 38).toInt by rw [ez_913]; rfl)).trans (show (gI z_912 38).toInt = (gI z_911 38).toInt by rw [ez_912]; rfl)).trans (show (gI z_911 38).toInt = (gI z_871 38).toInt by rw [ez_911]; rfl)
          have f_929 : 0 ≤ (gI z_915 42).toInt ∧ (gI z_915 42).toInt ≤ 1 := tz_915.1 42
          have q_930 := (((((show (gI z_915 42).toInt = (gI z_914 42).toInt by rw [ez_915]; rfl)).trans (show (gI z_914 42).toInt = (gI z_913 42).toInt by rw [ez_914]; rfl)).trans (show (gI z_913 42).toInt = (gI z_912 42).toInt by rw [ez_913]; rfl)).trans (show (gI z_912 42).toInt = (gI z_911 42).toInt by rw [ez_912]; rfl)).trans (show (gI z_911 42).toInt = (gI z_871 42).toInt by rw [ez_911]; rfl)
          have f_931 : 0 ≤ (gI z_915 34).toInt ∧ (gI z_915 34).toInt ≤ 20 := tz_915.1 34
          have q_932 := (show (gI z_915 34).toInt = ((gI z_914 34) + (1 : Int32)).toInt by rw [ez_915]; rfl)
          have q_933 : ((gI z_914 34) + (1 : Int32)).toInt = ((gI z_914 34).toInt + (1)) := (a_add rfl (show (1 : Int32).toInt = 1 by decide) (by omega) (by omega))
          exact hk z_915 tz_915 oz_915 (by omega)
        · skip
          have i_934 := i_ne rfl (show (0 : Int32).toInt = 0 by decide) c_910
          have f_935 : 0 ≤ (gI z_871 34).toInt ∧ (gI z_871 34).toInt ≤ 20 := tz_871.1 34
          have q_936 := ((o_906.fi 34 (by decide))).trans (o_865.fi 34 (by decide))
          exact hk z_871 tz_871 oz_871 (by omega)
    · subst er57
      refine ⟨fun _ => ?_, fun hc => absurd (show ((0 : Int32)) = ((0 : Int32)) by decide) hc⟩
      have g_937 : (106 : Int32).toInt = 106 := by decide
      have g_938 : (111 : Int32).toInt = 111 := by decide
      have g_939 : (98 : Int32).toInt = 98 := by decide
      have g_940 : (0 : Int32).toInt = 0 := by decide
      have g_941 : (0 : Int32).toInt = 0 := by decide
      have g_942 : (0 : Int32).toInt = 0 := by decide
      refine s_X9_isWord ((106 : Int32)) ((111 : Int32)) ((98 : Int32)) ((0 : Int32)) ((0 : Int32)) ((0 : Int32)) z _ ht  (fun r60 hp_943 => ?_)
      rcases hp_943 with ⟨er60, hp_943⟩ | ⟨er60, hp_943⟩
      · subst er60
        refine ⟨fun hc => absurd hc (by decide), fun _ => ?_⟩
        refine hK_655 ((2 : Int32)) ?_
        intro K_944 hK_986
        intro K_983 hK_987
        refine ⟨fun hc => absurd hc (by decide), fun _ => ?_⟩
        refine ⟨fun c_985 => ?_, fun c_985 => ?_⟩
        · skip
          have f_988 : 0 ≤ (gI z 34).toInt ∧ (gI z 34).toInt ≤ 20 := ht.1 34
          have i_989 := i_le (show (20 : Int32).toInt = 20 by decide) rfl c_985
          refine hK_987  ?_
          refine hK_986 ((0 : Int32)) ?_
          have g_1027 : (0 : Int32).toInt = 0 := by decide
          have f_1028 : 0 ≤ (gI z 38).toInt ∧ (gI z 38).toInt ≤ 300 := ht.1 38
          have f_1029 : 0 ≤ (gI z 36).toInt ∧ (gI z 36).toInt ≤ 300 := ht.1 36
          refine s_X9_must ((0 : Int32)) z _ ht (by omega) (fun z_990 tz_990 o_1031 hp_1030 => ?_)
          have oz_990 : Same [34, 37, 38, 39, 41, 42] [24] z z_990 := (Same.rf (z := z)).tr o_1031 (by decide) (by decide)
          have f_1032 : 0 ≤ (gI z_990 38).toInt ∧ (gI z_990 38).toInt ≤ 300 := tz_990.1 38
          have f_1033 : 0 ≤ (gI z_990 42).toInt ∧ (gI z_990 42).toInt ≤ 1 := tz_990.1 42
          have f_1034 : 0 ≤ (gI z 42).toInt ∧ (gI z 42).toInt ≤ 1 := ht.1 42
          intro K_991 hK_1035
          refine ⟨fun _ => ?_, fun hc => absurd hc (by decide)⟩
          refine ⟨fun _ => ?_, fun hc => absurd hc (by decide)⟩
          refine hK_1035 ((15 : Int64)) ?_
          have g_1068 : (15 : Int64).toInt = 15 := by decide
          have f_1069 : 0 ≤ (gI z_990 36).toInt ∧ (gI z_990 36).toInt ≤ 300 := tz_990.1 36
          have q_1070 := (o_1031.fi 36 (by decide))
          refine s_X9_number ((15 : Int64)) z_990 _ tz_990 (by omega) (fun r_1036 z_1037 tz_1037 o_1072 hp_1071 => ?_)
          have oz_1037 : Same [34, 37, 38, 39, 41, 42] [24] z z_1037 := oz_990.tr o_1072 (by decide) (by decide)
          have f_1073 : 0 ≤ (gI z_1037 38).toInt ∧ (gI z_1037 38).toInt ≤ 300 := tz_1037.1 38
          have f_1074 : 0 ≤ (gI z_1037 42).toInt ∧ (gI z_1037 42).toInt ≤ 1 := tz_1037.1 42
          intro K_1038 hK_1075
          refine ⟨fun _ => ?_, fun hc => absurd hc (by decide)⟩
          refine ⟨fun hc => absurd hc (by decide), fun _ => ?_⟩
          have g_1076 : (98 : Int32).toInt = 98 := by decide
          have g_1077 : (101 : Int32).toInt = 101 := by decide
          have g_1078 : (102 : Int32).toInt = 102 := by decide
          have g_1079 : (111 : Int32).toInt = 111 := by decide
          have g_1080 : (114 : Int32).toInt = 114 := by decide
          have g_1081 : (101 : Int32).toInt = 101 := by decide
          refine s_X9_isWord ((98 : Int32)) ((101 : Int32)) ((102 : Int32)) ((111 : Int32)) ((114 : Int32)) ((101 : Int32)) z_1037 _ tz_1037  (fun r_1050 hp_1082 => ?_)
          rcases hp_1082 with ⟨er_1050, hp_1082⟩ | ⟨er_1050, hp_1082⟩
          · subst er_1050
            have g_1083 : (1 : Int32).toInt = 1 := by decide
            have f_1084 : 0 ≤ (gI z_1037 36).toInt ∧ (gI z_1037 36).toInt ≤ 300 := tz_1037.1 36
            have q_1085 := ((o_1072.fi 36 (by decide))).trans (o_1031.fi 36 (by decide))
            refine s_X9_must ((1 : Int32)) z_1037 _ tz_1037 (by omega) (fun z_1051 tz_1051 o_1087 hp_1086 => ?_)
            have oz_1051 : Same [34, 37, 38, 39, 41, 42] [24] z z_1051 := oz_1037.tr o_1087 (by decide) (by decide)
            have f_1088 : 0 ≤ (gI z_1051 38).toInt ∧ (gI z_1051 38).toInt ≤ 300 := tz_1051.1 38
            have f_1089 : 0 ≤ (gI z_1051 42).toInt ∧ (gI z_1051 42).toInt ≤ 1 := tz_1051.1 42
            intro y_1052 ey_1052
            have iy_1052 : y_1052.toInt = (Int64.toInt32 (gJ z_1051 40)).toInt := by rw [ey_1052]
            intro K_1053 hK_1090
            intro K_1056 hK_1091
            refine ⟨fun c_1057 => ?_, fun c_1057 => ?_⟩
            · skip
              have i_1092 := i_ne rfl (show (2 : Int32).toInt = 2 by decide) c_1057
              refine hK_1091  ?_
              refine hK_1090 ((0 : Int32)) ?_
              have g_1094 : (0 : Int32).toInt = 0 := by decide
              have f_1095 : 0 ≤ (gI z_1051 36).toInt ∧ (gI z_1051 36).toInt ≤ 300 := tz_1051.1 36
              have q_1096 := (((o_1087.fi 36 (by decide))).trans (o_1072.fi 36 (by decide))).trans (o_1031.fi 36 (by decide))
              refine s_X9_must ((0 : Int32)) z_1051 _ tz_1051 (by omega) (fun z_1093 tz_1093 o_1098 hp_1097 => ?_)
              have oz_1093 : Same [34, 37, 38, 39, 41, 42] [24] z z_1093 := oz_1051.tr o_1098 (by decide) (by decide)
              have f_1099 : 0 ≤ (gI z_1093 38).toInt ∧ (gI z_1093 38).toInt ≤ 300 := tz_1093.1 38
              have f_1100 : 0 ≤ (gI z_1093 42).toInt ∧ (gI z_1093 42).toInt ≤ 1 := tz_1093.1 42
              refine hK_1075 y_1052 ((0 : Int32)) z_1093 ?_
              refine ⟨fun c_1101 => ?_, fun c_1101 => ?_⟩
              · skip
                have i_1107 := i_eq rfl (show (0 : Int32).toInt = 0 by decide) c_1101
                have f_1108 : 0 ≤ (gI z_1093 34).toInt ∧ (gI z_1093 34).toInt ≤ 20 := tz_1093.1 34
                have q_1109 := ((((o_1098.fi 34 (by decide))).trans (o_1087.fi 34 (by decide))).trans (o_1072.fi 34 (by decide))).trans (o_1031.fi 34 (by decide))
                refine ⟨vin (a_mul (show (4 : Int32).toInt = 4 by decide) rfl (by omega) (by omega)) (by omega) (by omega), ?_⟩
                intro z_1102 ez_1102
                have tz_1102 : TM z_1102 := by rw [ez_1102]; exact Ty_wR tz_1093 trivial
                have oz_1102 : Same [34, 37, 38, 39, 41, 42] [24] z z_1102 := oz_1093.r (by decide) ez_1102
                have f_1110 : 0 ≤ (gI z_1102 34).toInt ∧ (gI z_1102 34).toInt ≤ 20 := tz_1102.1 34
                have q_1111 := (((((show (gI z_1102 34).toInt = (gI z_1093 34).toInt by rw [ez_1102]; rfl)).trans (o_1098.fi 34 (by decide))).trans (o_1087.fi 34 (by decide))).trans (o_1072.fi 34 (by decide))).trans (o_1031.fi 34 (by decide))
                refine ⟨vin (a_add (a_mul (show (4 : Int32).toInt = 4 by decide) rfl (by omega) (by omega)) (show (1 : Int32).toInt = 1 by decide) (by omega) (by omega)) (by omega) (by omega), ?_⟩
                intro z_1103 ez_1103
                have tz_1103 : TM z_1103 := by rw [ez_1103]; exact Ty_wR tz_1102 trivial
                have oz_1103 : Same [34, 37, 38, 39, 41, 42] [24] z z_1103 := oz_1102.r (by decide) ez_1103
                have f_1112 : 0 ≤ (gI z_1103 34).toInt ∧ (gI z_1103 34).toInt ≤ 20 := tz_1103.1 34
                have q_1113 := ((((((show (gI z_1103 34).toInt = (gI z_1102 34).toInt by rw [ez_1103]; rfl)).trans (show (gI z_1102 34).toInt = (gI z_1093 34).toInt by rw [ez_1102]; rfl)).trans (o_1098.fi 34 (by decide))).trans (o_1087.fi 34 (by decide))).trans (o_1072.fi 34 (by decide))).trans (o_1031.fi 34 (by decide))
                refine ⟨vin (a_add (a_mul (show (4 : Int32).toInt = 4 by decide) rfl (by omega) (by omega)) (show (2 : Int32).toInt = 2 by decide) (by omega) (by omega)) (by omega) (by omega), ?_⟩
                intro z_1104 ez_1104
                have tz_1104 : TM z_1104 := by rw [ez_1104]; exact Ty_wR tz_1103 trivial
                have oz_1104 : Same [34, 37, 38, 39, 41, 42] [24] z z_1104 := oz_1103.r (by decide) ez_1104
                have f_1114 : 0 ≤ (gI z_1104 34).toInt ∧ (gI z_1104 34).toInt ≤ 20 := tz_1104.1 34
                have q_1115 := (((((((show (gI z_1104 34).toInt = (gI z_1103 34).toInt by rw [ez_1104]; rfl)).trans (show (gI z_1103 34).toInt = (gI z_1102 34).toInt by rw [ez_1103]; rfl)).trans (show (gI z_1102 34).toInt = (gI z_1093 34).toInt by rw [ez_1102]; rfl)).trans (o_1098.fi 34 (by decide))).trans (o_1087.fi 34 (by decide))).trans (o_1072.fi 34 (by decide))).trans (o_1031.fi 34 (by decide))
                refine ⟨vin (a_add (a_mul (show (4 : Int32).toInt = 4 by decide) rfl (by omega) (by omega)) (show (3 : Int32).toInt = 3 by decide) (by omega) (by omega)) (by omega) (by omega), ?_⟩
                intro z_1105 ez_1105
                have tz_1105 : TM z_1105 := by rw [ez_1105]; exact Ty_wR tz_1104 trivial
                have oz_1105 : Same [34, 37, 38, 39, 41, 42] [24] z z_1105 := oz_1104.r (by decide) ez_1105
                intro z_1106 ez_1106
                have f_1116 : 0 ≤ (gI z_1105 34).toInt ∧ (gI z_1105 34).toInt ≤ 20 := tz_1105.1 34
                have q_1117 := ((((((((show (gI z_1105 34).toInt = (gI z_1104 34).toInt by rw [ez_1105]; rfl)).trans (show (gI z_1104 34).toInt = (gI z_1103 34).toInt by rw [ez_1104]; rfl)).trans (show (gI z_1103 34).toInt = (gI z_1102 34).toInt by rw [ez_1103]; rfl)).trans (show (gI z_1102 34).toInt = (gI z_1093 34).toInt by rw [ez_1102]; rfl)).trans (o_1098.fi 34 (by decide))).trans (o_1087.fi 34 (by decide))).trans (o_1072.fi 34 (by decide))).trans (o_1031.fi 34 (by decide))
                have tz_1106 : TM z_1106 := by rw [ez_1106]; exact Ty_wI tz_1105 (show 0 ≤ ((gI z_1105 34) + (1 : Int32)).toInt ∧ ((gI z_1105 34) + (1 : Int32)).toInt ≤ 20 from by rw [(a_add rfl (show (1 : Int32).toInt = 1 by decide) (by omega) (by omega))]; omega)
                have oz_1106 : Same [34, 37, 38, 39, 41, 42] [24] z z_1106 := oz_1105.i (by decide) ez_1106
                have f_1118 : 0 ≤ (gI z_1106 38).toInt ∧ (gI z_1106 38).toInt ≤ 300 := tz_1106.1 38
                have q_1119 := (((((show (gI z_1106 38).toInt = (gI z_1105 38).toInt by rw [ez_1106]; rfl)).trans (show (gI z_1105 38).toInt = (gI z_1104 38).toInt by rw [ez_1105]; rfl)).trans (show (gI z_1104 38).toInt = (gI z_1103 38).toInt by rw [ez_1104]; rfl)).trans (show (gI z_1103 38).toInt = (gI z_1102 38).toInt by rw [ez_1103]; rfl)).trans (show (gI z_1102 38).toInt = (gI z_1093 38).toInt by rw [ez_1102]; rfl)
                have f_1120 : 0 ≤ (gI z_1106 42).toInt ∧ (gI z_1106 42).toInt ≤ 1 := tz_1106.1 42
                have q_1121 := (((((show (gI z_1106 42).toInt = (gI z_1105 42).toInt by rw [ez_1106]; rfl)).trans (show (gI z_1105 42).toInt = (gI z_1104 42).toInt by rw [ez_1105]; rfl)).trans (show (gI z_1104 42).toInt = (gI z_1103 42).toInt by rw [ez_1104]; rfl)).trans (show (gI z_1103 42).toInt = (gI z_1102 42).toInt by rw [ez_1103]; rfl)).trans (show (gI z_1102 42).toInt = (gI z_1093 42).toInt by rw [ez_1102]; rfl)
                have f_1122 : 0 ≤ (gI z_1106 34).toInt ∧ (gI z_1106 34).toInt ≤ 20 := tz_1106.1 34
                have q_1123 := (show (gI z_1106 34).toInt = ((gI z_1105 34) + (1 : Int32)).toInt by rw [ez_1106]; rfl)
                have q_1124 : ((gI z_1105 34) + (1 : Int32)).toInt = ((gI z_1105 34).toInt + (1)) := (a_add rfl (show (1 : Int32).toInt = 1 by decide) (by omega) (by omega))
                exact hk z_1106 tz_1106 oz_1106 (by omega)
              · skip
                have i_1125 := i_ne rfl (show (0 : Int32).toInt = 0 by decide) c_1101
                have f_1126 : 0 ≤ (gI z_1093 34).toInt ∧ (gI z_1093 34).toInt ≤ 20 := tz_1093.1 34
                have q_1127 := ((((o_1098.fi 34 (by decide))).trans (o_1087.fi 34 (by decide))).trans (o_1072.fi 34 (by decide))).trans (o_1031.fi 34 (by decide))
                exact hk z_1093 tz_1093 oz_1093 (by omega)
            · skip
              have i_1128 := i_eq rfl (show (2 : Int32).toInt = 2 by decide) c_1057
              refine ⟨fun c_1058 => ?_, fun c_1058 => ?_⟩
              · skip
                refine hK_1091  ?_
                refine hK_1090 ((0 : Int32)) ?_
                have g_1130 : (0 : Int32).toInt = 0 := by decide
                have f_1131 : 0 ≤ (gI z_1051 36).toInt ∧ (gI z_1051 36).toInt ≤ 300 := tz_1051.1 36
                have q_1132 := (((o_1087.fi 36 (by decide))).trans (o_1072.fi 36 (by decide))).trans (o_1031.fi 36 (by decide))
                refine s_X9_must ((0 : Int32)) z_1051 _ tz_1051 (by omega) (fun z_1129 tz_1129 o_1134 hp_1133 => ?_)
                have oz_1129 : Same [34, 37, 38, 39, 41, 42] [24] z z_1129 := oz_1051.tr o_1134 (by decide) (by decide)
                have f_1135 : 0 ≤ (gI z_1129 38).toInt ∧ (gI z_1129 38).toInt ≤ 300 := tz_1129.1 38
                have f_1136 : 0 ≤ (gI z_1129 42).toInt ∧ (gI z_1129 42).toInt ≤ 1 := tz_1129.1 42
                refine hK_1075 y_1052 ((0 : Int32)) z_1129 ?_
                refine ⟨fun c_1137 => ?_, fun c_1137 => ?_⟩
                · skip
                  have i_1143 := i_eq rfl (show (0 : Int32).toInt = 0 by decide) c_1137
                  have f_1144 : 0 ≤ (gI z_1129 34).toInt ∧ (gI z_1129 34).toInt ≤ 20 := tz_1129.1 34
                  have q_1145 := ((((o_1134.fi 34 (by decide))).trans (o_1087.fi 34 (by decide))).trans (o_1072.fi 34 (by decide))).trans (o_1031.fi 34 (by decide))
                  refine ⟨vin (a_mul (show (4 : Int32).toInt = 4 by decide) rfl (by omega) (by omega)) (by omega) (by omega), ?_⟩
                  intro z_1138 ez_1138
                  have tz_1138 : TM z_1138 := by rw [ez_1138]; exact Ty_wR tz_1129 trivial
                  have oz_1138 : Same [34, 37, 38, 39, 41, 42] [24] z z_1138 := oz_1129.r (by decide) ez_1138
                  have f_1146 : 0 ≤ (gI z_1138 34).toInt ∧ (gI z_1138 34).toInt ≤ 20 := tz_1138.1 34
                  have q_1147 := (((((show (gI z_1138 34).toInt = (gI z_1129 34).toInt by rw [ez_1138]; rfl)).trans (o_1134.fi 34 (by decide))).trans (o_1087.fi 34 (by decide))).trans (o_1072.fi 34 (by decide))).trans (o_1031.fi 34 (by decide))
                  refine ⟨vin (a_add (a_mul (show (4 : Int32).toInt = 4 by decide) rfl (by omega) (by omega)) (show (1 : Int32).toInt = 1 by decide) (by omega) (by omega)) (by omega) (by omega), ?_⟩
                  intro z_1139 ez_1139
                  have tz_1139 : TM z_1139 := by rw [ez_1139]; exact Ty_wR tz_1138 trivial
                  have oz_1139 : Same [34, 37, 38, 39, 41, 42] [24] z z_1139 := oz_1138.r (by decide) ez_1139
                  have f_1148 : 0 ≤ (gI z_1139 34).toInt ∧ (gI z_1139 34).toInt ≤ 20 := tz_1139.1 34
                  have q_1149 := ((((((show (gI z_1139 34).toInt = (gI z_1138 34).toInt by rw [ez_1139]; rfl)).trans (show (gI z_1138 34).toInt = (gI z_1129 34).toInt by rw [ez_1138]; rfl)).trans (o_1134.fi 34 (by decide))).trans (o_1087.fi 34 (by decide))).trans (o_1072.fi 34 (by decide))).trans (o_1031.fi 34 (by decide))
                  refine ⟨vin (a_add (a_mul (show (4 : Int32).toInt = 4 by decide) rfl (by omega) (by omega)) (show (2 : Int32).toInt = 2 by decide) (by omega) (by omega)) (by omega) (by omega), ?_⟩
                  intro z_1140 ez_1140
                  have tz_1140 : TM z_1140 := by rw [ez_1140]; exact Ty_wR tz_1139 trivial
                  have oz_1140 : Same [34, 37, 38, 39, 41, 42] [24] z z_1140 := oz_1139.r (by decide) ez_1140
                  have f_1150 : 0 ≤ (gI z_1140 34).toInt ∧ (gI z_1140 34).toInt ≤ 20 := tz_1140.1 34
                  have q_1151 := (((((((show (gI z_1140 34).toInt = (gI z_1139 34).toInt by rw [ez_1140]; rfl)).trans (show (gI z_1139 34).toInt = (gI z_1138 34).toInt by rw [ez_1139]; rfl)).trans (show (gI z_1138 34).toInt = (gI z_1129 34).toInt by rw [ez_1138]; rfl)).trans (o_1134.fi 34 (by decide))).trans (o_1087.fi 34 (by decide))).trans (o_1072.fi 34 (by decide))).trans (o_1031.fi 34 (by decide))
                  refine ⟨vin (a_add (a_mul (show (4 : Int32).toInt = 4 by decide) rfl (by omega) (by omega)) (show (3 : Int32).toInt = 3 by decide) (by omega) (by omega)) (by omega) (by omega), ?_⟩
                  intro z_1141 ez_1141
                  have tz_1141 : TM z_1141 := by rw [ez_1141]; exact Ty_wR tz_1140 trivial
                  have oz_1141 : Same [34, 37, 38, 39, 41, 42] [24] z z_1141 := oz_1140.r (by decide) ez_1141
                  intro z_1142 ez_1142
                  have f_1152 : 0 ≤ (gI z_1141 34).toInt ∧ (gI z_1141 34).toInt ≤ 20 := tz_1141.1 34
                  have q_1153 := ((((((((show (gI z_1141 34).toInt = (gI z_1140 34).toInt by rw [ez_1141]; rfl)).trans (show (gI z_1140 34).toInt = (gI z_1139 34).toInt by rw [ez_1140]; rfl)).trans (show (gI z_1139 34).toInt = (gI z_1138 34).toInt by rw [ez_1139]; rfl)).trans (show (gI z_1138 34).toInt = (gI z_1129 34).toInt by rw [ez_1138]; rfl)).trans (o_1134.fi 34 (by decide))).trans (o_1087.fi 34 (by decide))).trans (o_1072.fi 34 (by decide))).trans (o_1031.fi 34 (by decide))
                  have tz_1142 : TM z_1142 := by rw [ez_1142]; exact Ty_wI tz_1141 (show 0 ≤ ((gI z_1141 34) + (1 : Int32)).toInt ∧ ((gI z_1141 34) + (1 : Int32)).toInt ≤ 20 from by rw [(a_add rfl (show (1 : Int32).toInt = 1 by decide) (by omega) (by omega))]; omega)
                  have oz_1142 : Same [34, 37, 38, 39, 41, 42] [24] z z_1142 := oz_1141.i (by decide) ez_1142
                  have f_1154 : 0 ≤ (gI z_1142 38).toInt ∧ (gI z_1142 38).toInt ≤ 300 := tz_1142.1 38
                  have q_1155 := (((((show (gI z_1142 38).toInt = (gI z_1141 38).toInt by rw [ez_1142]; rfl)).trans (show (gI z_1141 38).toInt = (gI z_1140 38).toInt by rw [ez_1141]; rfl)).trans (show (gI z_1140 38).toInt = (gI z_1139 38).toInt by rw [ez_1140]; rfl)).trans (show (gI z_1139 38).toInt = (gI z_1138 38).toInt by rw [ez_1139]; rfl)).trans (show (gI z_1138 38).toInt = (gI z_1129 38).toInt by rw [ez_1138]; rfl)
                  have f_1156 : 0 ≤ (gI z_1142 42).toInt ∧ (gI z_1142 42).toInt ≤ 1 := tz_1142.1 42
                  have q_1157 := (((((show (gI z_1142 42).toInt = (gI z_1141 42).toInt by rw [ez_1142]; rfl)).trans (show (gI z_1141 42).toInt = (gI z_1140 42).toInt by rw [ez_1141]; rfl)).trans (show (gI z_1140 42).toInt = (gI z_1139 42).toInt by rw [ez_1140]; rfl)).trans (show (gI z_1139 42).toInt = (gI z_1138 42).toInt by rw [ez_1139]; rfl)).trans (show (gI z_1138 42).toInt = (gI z_1129 42).toInt by rw [ez_1138]; rfl)
                  have f_1158 : 0 ≤ (gI z_1142 34).toInt ∧ (gI z_1142 34).toInt ≤ 20 := tz_1142.1 34
                  have q_1159 := (show (gI z_1142 34).toInt = ((gI z_1141 34) + (1 : Int32)).toInt by rw [ez_1142]; rfl)
                  have q_1160 : ((gI z_1141 34) + (1 : Int32)).toInt = ((gI z_1141 34).toInt + (1)) := (a_add rfl (show (1 : Int32).toInt = 1 by decide) (by omega) (by omega))
                  exact hk z_1142 tz_1142 oz_1142 (by omega)
                · skip
                  have i_1161 := i_ne rfl (show (0 : Int32).toInt = 0 by decide) c_1137
                  have f_1162 : 0 ≤ (gI z_1129 34).toInt ∧ (gI z_1129 34).toInt ≤ 20 := tz_1129.1 34
                  have q_1163 := ((((o_1134.fi 34 (by decide))).trans (o_1087.fi 34 (by decide))).trans (o_1072.fi 34 (by decide))).trans (o_1031.fi 34 (by decide))
                  exact hk z_1129 tz_1129 oz_1129 (by omega)
              · skip
                refine ⟨fun c_1059 => ?_, fun c_1059 => ?_⟩
                · skip
                  refine hK_1091  ?_
                  refine hK_1090 ((0 : Int32)) ?_
                  have g_1165 : (0 : Int32).toInt = 0 := by decide
                  have f_1166 : 0 ≤ (gI z_1051 36).toInt ∧ (gI z_1051 36).toInt ≤ 300 := tz_1051.1 36
                  have q_1167 := (((o_1087.fi 36 (by decide))).trans (o_1072.fi 36 (by decide))).trans (o_1031.fi 36 (by decide))
                  refine s_X9_must ((0 : Int32)) z_1051 _ tz_1051 (by omega) (fun z_1164 tz_1164 o_1169 hp_1168 => ?_)
                  have oz_1164 : Same [34, 37, 38, 39, 41, 42] [24] z z_1164 := oz_1051.tr o_1169 (by decide) (by decide)
                  have f_1170 : 0 ≤ (gI z_1164 38).toInt ∧ (gI z_1164 38).toInt ≤ 300 := tz_1164.1 38
                  have f_1171 : 0 ≤ (gI z_1164 42).toInt ∧ (gI z_1164 42).toInt ≤ 1 := tz_1164.1 42
                  refine hK_1075 y_1052 ((0 : Int32)) z_1164 ?_
                  refine ⟨fun c_1172 => ?_, fun c_1172 => ?_⟩
                  · skip
                    have i_1178 := i_eq rfl (show (0 : Int32).toInt = 0 by decide) c_1172
                    have f_1179 : 0 ≤ (gI z_1164 34).toInt ∧ (gI z_1164 34).toInt ≤ 20 := tz_1164.1 34
                    have q_1180 := ((((o_1169.fi 34 (by decide))).trans (o_1087.fi 34 (by decide))).trans (o_1072.fi 34 (by decide))).trans (o_1031.fi 34 (by decide))
                    refine ⟨vin (a_mul (show (4 : Int32).toInt = 4 by decide) rfl (by omega) (by omega)) (by omega) (by omega), ?_⟩
                    intro z_1173 ez_1173
                    have tz_1173 : TM z_1173 := by rw [ez_1173]; exact Ty_wR tz_1164 trivial
                    have oz_1173 : Same [34, 37, 38, 39, 41, 42] [24] z z_1173 := oz_1164.r (by decide) ez_1173
                    have f_1181 : 0 ≤ (gI z_1173 34).toInt ∧ (gI z_1173 34).toInt ≤ 20 := tz_1173.1 34
                    have q_1182 := (((((show (gI z_1173 34).toInt = (gI z_1164 34).toInt by rw [ez_1173]; rfl)).trans (o_1169.fi 34 (by decide))).trans (o_1087.fi 34 (by decide))).trans (o_1072.fi 34 (by decide))).trans (o_1031.fi 34 (by decide))
                    refine ⟨vin (a_add (a_mul (show (4 : Int32).toInt = 4 by decide) rfl (by omega) (by omega)) (show (1 : Int32).toInt = 1 by decide) (by omega) (by omega)) (by omega) (by omega), ?_⟩
                    intro z_1174 ez_1174
                    have tz_1174 : TM z_1174 := by rw [ez_1174]; exact Ty_wR tz_1173 trivial
                    have oz_1174 : Same [34, 37, 38, 39, 41, 42] [24] z z_1174 := oz_1173.r (by decide) ez_1174
                    have f_1183 : 0 ≤ (gI z_1174 34).toInt ∧ (gI z_1174 34).toInt ≤ 20 := tz_1174.1 34
                    have q_1184 := ((((((show (gI z_1174 34).toInt = (gI z_1173 34).toInt by rw [ez_1174]; rfl)).trans (show (gI z_1173 34).toInt = (gI z_1164 34).toInt by rw [ez_1173]; rfl)).trans (o_1169.fi 34 (by decide))).trans (o_1087.fi 34 (by decide))).trans (o_1072.fi 34 (by decide))).trans (o_1031.fi 34 (by decide))
                    refine ⟨vin (a_add (a_mul (show (4 : Int32).toInt = 4 by decide) rfl (by omega) (by omega)) (show (2 : Int32).toInt = 2 by decide) (by omega) (by omega)) (by omega) (by omega), ?_⟩
                    intro z_1175 ez_1175
                    have tz_1175 : TM z_1175 := by rw [ez_1175]; exact Ty_wR tz_1174 trivial
                    have oz_1175 : Same [34, 37, 38, 39, 41, 42] [24] z z_1175 := oz_1174.r (by decide) ez_1175
                    have f_1185 : 0 ≤ (gI z_1175 34).toInt ∧ (gI z_1175 34).toInt ≤ 20 := tz_1175.1 34
                    have q_1186 := (((((((show (gI z_1175 34).toInt = (gI z_1174 34).toInt by rw [ez_1175]; rfl)).trans (show (gI z_1174 34).toInt = (gI z_1173 34).toInt by rw [ez_1174]; rfl)).trans (show (gI z_1173 34).toInt = (gI z_1164 34).toInt by rw [ez_1173]; rfl)).trans (o_1169.fi 34 (by decide))).trans (o_1087.fi 34 (by decide))).trans (o_1072.fi 34 (by decide))).trans (o_1031.fi 34 (by decide))
                    refine ⟨vin (a_add (a_mul (show (4 : Int32).toInt = 4 by decide) rfl (by omega) (by omega)) (show (3 : Int32).toInt = 3 by decide) (by omega) (by omega)) (by omega) (by omega), ?_⟩
                    intro z_1176 ez_1176
                    have tz_1176 : TM z_1176 := by rw [ez_1176]; exact Ty_wR tz_1175 trivial
                    have oz_1176 : Same [34, 37, 38, 39, 41, 42] [24] z z_1176 := oz_1175.r (by decide) ez_1176
                    intro z_1177 ez_1177
                    have f_1187 : 0 ≤ (gI z_1176 34).toInt ∧ (gI z_1176 34).toInt ≤ 20 := tz_1176.1 34
                    have q_1188 := ((((((((show (gI z_1176 34).toInt = (gI z_1175 34).toInt by rw [ez_1176]; rfl)).trans (show (gI z_1175 34).toInt = (gI z_1174 34).toInt by rw [ez_1175]; rfl)).trans (show (gI z_1174 34).toInt = (gI z_1173 34).toInt by rw [ez_1174]; rfl)).trans (show (gI z_1173 34).toInt = (gI z_1164 34).toInt by rw [ez_1173]; rfl)).trans (o_1169.fi 34 (by decide))).trans (o_1087.fi 34 (by decide))).trans (o_1072.fi 34 (by decide))).trans (o_1031.fi 34 (by decide))
                    have tz_1177 : TM z_1177 := by rw [ez_1177]; exact Ty_wI tz_1176 (show 0 ≤ ((gI z_1176 34) + (1 : Int32)).toInt ∧ ((gI z_1176 34) + (1 : Int32)).toInt ≤ 20 from by rw [(a_add rfl (show (1 : Int32).toInt = 1 by decide) (by omega) (by omega))]; omega)
                    have oz_1177 : Same [34, 37, 38, 39, 41, 42] [24] z z_1177 := oz_1176.i (by decide) ez_1177
                    have f_1189 : 0 ≤ (gI z_1177 38).toInt ∧ (gI z_1177 38).toInt ≤ 300 := tz_1177.1 38
                    have q_1190 := (((((show (gI z_1177 38).toInt = (gI z_1176 38).toInt by rw [ez_1177]; rfl)).trans (show (gI z_1176 38).toInt = (gI z_1175 38).toInt by rw [ez_1176]; rfl)).trans (show (gI z_1175 38).toInt = (gI z_1174 38).toInt by rw [ez_1175]; rfl)).trans (show (gI z_1174 38).toInt = (gI z_1173 38).toInt by rw [ez_1174]; rfl)).trans (show (gI z_1173 38).toInt = (gI z_1164 38).toInt by rw [ez_1173]; rfl)
                    have f_1191 : 0 ≤ (gI z_1177 42).toInt ∧ (gI z_1177 42).toInt ≤ 1 := tz_1177.1 42
                    have q_1192 := (((((show (gI z_1177 42).toInt = (gI z_1176 42).toInt by rw [ez_1177]; rfl)).trans (show (gI z_1176 42).toInt = (gI z_1175 42).toInt by rw [ez_1176]; rfl)).trans (show (gI z_1175 42).toInt = (gI z_1174 42).toInt by rw [ez_1175]; rfl)).trans (show (gI z_1174 42).toInt = (gI z_1173 42).toInt by rw [ez_1174]; rfl)).trans (show (gI z_1173 42).toInt = (gI z_1164 42).toInt by rw [ez_1173]; rfl)
                    have f_1193 : 0 ≤ (gI z_1177 34).toInt ∧ (gI z_1177 34).toInt ≤ 20 := tz_1177.1 34
                    have q_1194 := (show (gI z_1177 34).toInt = ((gI z_1176 34) + (1 : Int32)).toInt by rw [ez_1177]; rfl)
                    have q_1195 : ((gI z_1176 34) + (1 : Int32)).toInt = ((gI z_1176 34).toInt + (1)) := (a_add rfl (show (1 : Int32).toInt = 1 by decide) (by omega) (by omega))
                    exact hk z_1177 tz_1177 oz_1177 (by omega)
                  · skip
                    have i_1196 := i_ne rfl (show (0 : Int32).toInt = 0 by decide) c_1172
                    have f_1197 : 0 ≤ (gI z_1164 34).toInt ∧ (gI z_1164 34).toInt ≤ 20 := tz_1164.1 34
                    have q_1198 := ((((o_1169.fi 34 (by decide))).trans (o_1087.fi 34 (by decide))).trans (o_1072.fi 34 (by decide))).trans (o_1031.fi 34 (by decide))
                    exact hk z_1164 tz_1164 oz_1164 (by omega)
                · skip
                  refine hK_1090 ((1 : Int32)) ?_
                  have g_1200 : (1 : Int32).toInt = 1 := by decide
                  have f_1201 : 0 ≤ (gI z_1051 36).toInt ∧ (gI z_1051 36).toInt ≤ 300 := tz_1051.1 36
                  have q_1202 := (((o_1087.fi 36 (by decide))).trans (o_1072.fi 36 (by decide))).trans (o_1031.fi 36 (by decide))
                  refine s_X9_must ((1 : Int32)) z_1051 _ tz_1051 (by omega) (fun z_1199 tz_1199 o_1204 hp_1203 => ?_)
                  have oz_1199 : Same [34, 37, 38, 39, 41, 42] [24] z z_1199 := oz_1051.tr o_1204 (by decide) (by decide)
                  have f_1205 : 0 ≤ (gI z_1199 38).toInt ∧ (gI z_1199 38).toInt ≤ 300 := tz_1199.1 38
                  have f_1206 : 0 ≤ (gI z_1199 42).toInt ∧ (gI z_1199 42).toInt ≤ 1 := tz_1199.1 42
                  refine hK_1075 y_1052 ((0 : Int32)) z_1199 ?_
                  refine ⟨fun c_1207 => ?_, fun c_1207 => ?_⟩
                  · skip
                    have i_1213 := i_eq rfl (show (0 : Int32).toInt = 0 by decide) c_1207
                    have f_1214 : 0 ≤ (gI z_1199 34).toInt ∧ (gI z_1199 34).toInt ≤ 20 := tz_1199.1 34
                    have q_1215 := ((((o_1204.fi 34 (by decide))).trans (o_1087.fi 34 (by decide))).trans (o_1072.fi 34 (by decide))).trans (o_1031.fi 34 (by decide))
                    refine ⟨vin (a_mul (show (4 : Int32).toInt = 4 by decide) rfl (by omega) (by omega)) (by omega) (by omega), ?_⟩
                    intro z_1208 ez_1208
                    have tz_1208 : TM z_1208 := by rw [ez_1208]; exact Ty_wR tz_1199 trivial
                    have oz_1208 : Same [34, 37, 38, 39, 41, 42] [24] z z_1208 := oz_1199.r (by decide) ez_1208
                    have f_1216 : 0 ≤ (gI z_1208 34).toInt ∧ (gI z_1208 34).toInt ≤ 20 := tz_1208.1 34
                    have q_1217 := (((((show (gI z_1208 34).toInt = (gI z_1199 34).toInt by rw [ez_1208]; rfl)).trans (o_1204.fi 34 (by decide))).trans (o_1087.fi 34 (by decide))).trans (o_1072.fi 34 (by decide))).trans (o_1031.fi 34 (by decide))
                    refine ⟨vin (a_add (a_mul (show (4 : Int32).toInt = 4 by decide) rfl (by omega) (by omega)) (show (1 : Int32).toInt = 1 by decide) (by omega) (by omega)) (by omega) (by omega), ?_⟩
                    intro z_1209 ez_1209
                    have tz_1209 : TM z_1209 := by rw [ez_1209]; exact Ty_wR tz_1208 trivial
                    have oz_1209 : Same [34, 37, 38, 39, 41, 42] [24] z z_1209 := oz_1208.r (by decide) ez_1209
                    have f_1218 : 0 ≤ (gI z_1209 34).toInt ∧ (gI z_1209 34).toInt ≤ 20 := tz_1209.1 34
                    have q_1219 := ((((((show (gI z_1209 34).toInt = (gI z_1208 34).toInt by rw [ez_1209]; rfl)).trans (show (gI z_1208 34).toInt = (gI z_1199 34).toInt by rw [ez_1208]; rfl)).trans (o_1204.fi 34 (by decide))).trans (o_1087.fi 34 (by decide))).trans (o_1072.fi 34 (by decide))).trans (o_1031.fi 34 (by decide))
                    refine ⟨vin (a_add (a_mul (show (4 : Int32).toInt = 4 by decide) rfl (by omega) (by omega)) (show (2 : Int32).toInt = 2 by decide) (by omega) (by omega)) (by omega) (by omega), ?_⟩
                    intro z_1210 ez_1210
                    have tz_1210 : TM z_1210 := by rw [ez_1210]; exact Ty_wR tz_1209 trivial
                    have oz_1210 : Same [34, 37, 38, 39, 41, 42] [24] z z_1210 := oz_1209.r (by decide) ez_1210
                    have f_1220 : 0 ≤ (gI z_1210 34).toInt ∧ (gI z_1210 34).toInt ≤ 20 := tz_1210.1 34
                    have q_1221 := (((((((show (gI z_1210 34).toInt = (gI z_1209 34).toInt by rw [ez_1210]; rfl)).trans (show (gI z_1209 34).toInt = (gI z_1208 34).toInt by rw [ez_1209]; rfl)).trans (show (gI z_1208 34).toInt = (gI z_1199 34).toInt by rw [ez_1208]; rfl)).trans (o_1204.fi 34 (by decide))).trans (o_1087.fi 34 (by decide))).trans (o_1072.fi 34 (by decide))).trans (o_1031.fi 34 (by decide))
                    refine ⟨vin (a_add (a_mul (show (4 : Int32).toInt = 4 by decide) rfl (by omega) (by omega)) (show (3 : Int32).toInt = 3 by decide) (by omega) (by omega)) (by omega) (by omega), ?_⟩
                    intro z_1211 ez_1211
                    have tz_1211 : TM z_1211 := by rw [ez_1211]; exact Ty_wR tz_1210 trivial
                    have oz_1211 : Same [34, 37, 38, 39, 41, 42] [24] z z_1211 := oz_1210.r (by decide) ez_1211
                    intro z_1212 ez_1212
                    have f_1222 : 0 ≤ (gI z_1211 34).toInt ∧ (gI z_1211 34).toInt ≤ 20 := tz_1211.1 34
                    have q_1223 := ((((((((show (gI z_1211 34).toInt = (gI z_1210 34).toInt by rw [ez_1211]; rfl)).trans (show (gI z_1210 34).toInt = (gI z_1209 34).toInt by rw [ez_1210]; rfl)).trans (show (gI z_1209 34).toInt = (gI z_1208 34).toInt by rw [ez_1209]; rfl)).trans (show (gI z_1208 34).toInt = (gI z_1199 34).toInt by rw [ez_1208]; rfl)).trans (o_1204.fi 34 (by decide))).trans (o_1087.fi 34 (by decide))).trans (o_1072.fi 34 (by decide))).trans (o_1031.fi 34 (by decide))
                    have tz_1212 : TM z_1212 := by rw [ez_1212]; exact Ty_wI tz_1211 (show 0 ≤ ((gI z_1211 34) + (1 : Int32)).toInt ∧ ((gI z_1211 34) + (1 : Int32)).toInt ≤ 20 from by rw [(a_add rfl (show (1 : Int32).toInt = 1 by decide) (by omega) (by omega))]; omega)
                    have oz_1212 : Same [34, 37, 38, 39, 41, 42] [24] z z_1212 := oz_1211.i (by decide) ez_1212
                    have f_1224 : 0 ≤ (gI z_1212 38).toInt ∧ (gI z_1212 38).toInt ≤ 300 := tz_1212.1 38
                    have q_1225 := (((((show (gI z_1212 38).toInt = (gI z_1211 38).toInt by rw [ez_1212]; rfl)).trans (show (gI z_1211 38).toInt = (gI z_1210 38).toInt by rw [ez_1211]; rfl)).trans (show (gI z_1210 38).toInt = (gI z_1209 38).toInt by rw [ez_1210]; rfl)).trans (show (gI z_1209 38).toInt = (gI z_1208 38).toInt by rw [ez_1209]; rfl)).trans (show (gI z_1208 38).toInt = (gI z_1199 38).toInt by rw [ez_1208]; rfl)
                    have f_1226 : 0 ≤ (gI z_1212 42).toInt ∧ (gI z_1212 42).toInt ≤ 1 := tz_1212.1 42
                    have q_1227 := (((((show (gI z_1212 42).toInt = (gI z_1211 42).toInt by rw [ez_1212]; rfl)).trans (show (gI z_1211 42).toInt = (gI z_1210 42).toInt by rw [ez_1211]; rfl)).trans (show (gI z_1210 42).toInt = (gI z_1209 42).toInt by rw [ez_1210]; rfl)).trans (show (gI z_1209 42).toInt = (gI z_1208 42).toInt by rw [ez_1209]; rfl)).trans (show (gI z_1208 42).toInt = (gI z_1199 42).toInt by rw [ez_1208]; rfl)
                    have f_1228 : 0 ≤ (gI z_1212 34).toInt ∧ (gI z_1212 34).toInt ≤ 20 := tz_1212.1 34
                    have q_1229 := (show (gI z_1212 34).toInt = ((gI z_1211 34) + (1 : Int32)).toInt by rw [ez_1212]; rfl)
                    have q_1230 : ((gI z_1211 34) + (1 : Int32)).toInt = ((gI z_1211 34).toInt + (1)) := (a_add rfl (show (1 : Int32).toInt = 1 by decide) (by omega) (by omega))
                    exact hk z_1212 tz_1212 oz_1212 (by omega)
                  · skip
                    have i_1231 := i_ne rfl (show (0 : Int32).toInt = 0 by decide) c_1207
                    have f_1232 : 0 ≤ (gI z_1199 34).toInt ∧ (gI z_1199 34).toInt ≤ 20 := tz_1199.1 34
                    have q_1233 := ((((o_1204.fi 34 (by decide))).trans (o_1087.fi 34 (by decide))).trans (o_1072.fi 34 (by decide))).trans (o_1031.fi 34 (by decide))
                    exact hk z_1199 tz_1199 oz_1199 (by omega)
          · subst er_1050
            have g_1234 : (0 : Int32).toInt = 0 := by decide
            have f_1235 : 0 ≤ (gI z_1037 36).toInt ∧ (gI z_1037 36).toInt ≤ 300 := tz_1037.1 36
            have q_1236 := ((o_1072.fi 36 (by decide))).trans (o_1031.fi 36 (by decide))
            refine s_X9_must ((0 : Int32)) z_1037 _ tz_1037 (by omega) (fun z_1051 tz_1051 o_1238 hp_1237 => ?_)
            have oz_1051 : Same [34, 37, 38, 39, 41, 42] [24] z z_1051 := oz_1037.tr o_1238 (by decide) (by decide)
            have f_1239 : 0 ≤ (gI z_1051 38).toInt ∧ (gI z_1051 38).toInt ≤ 300 := tz_1051.1 38
            have f_1240 : 0 ≤ (gI z_1051 42).toInt ∧ (gI z_1051 42).toInt ≤ 1 := tz_1051.1 42
            intro y_1052 ey_1052
            have iy_1052 : y_1052.toInt = (Int64.toInt32 (gJ z_1051 40)).toInt := by rw [ey_1052]
            intro K_1053 hK_1241
            intro K_1056 hK_1242
            refine ⟨fun c_1057 => ?_, fun c_1057 => ?_⟩
            · skip
              have i_1243 := i_ne rfl (show (2 : Int32).toInt = 2 by decide) c_1057
              refine hK_1242  ?_
              refine hK_1241 ((0 : Int32)) ?_
              have g_1245 : (0 : Int32).toInt = 0 := by decide
              have f_1246 : 0 ≤ (gI z_1051 36).toInt ∧ (gI z_1051 36).toInt ≤ 300 := tz_1051.1 36
              have q_1247 := (((o_1238.fi 36 (by decide))).trans (o_1072.fi 36 (by decide))).trans (o_1031.fi 36 (by decide))
              refine s_X9_must ((0 : Int32)) z_1051 _ tz_1051 (by omega) (fun z_1244 tz_1244 o_1249 hp_1248 => ?_)
              have oz_1244 : Same [34, 37, 38, 39, 41, 42] [24] z z_1244 := oz_1051.tr o_1249 (by decide) (by decide)
              have f_1250 : 0 ≤ (gI z_1244 38).toInt ∧ (gI z_1244 38).toInt ≤ 300 := tz_1244.1 38
              have f_1251 : 0 ≤ (gI z_1244 42).toInt ∧ (gI z_1244 42).toInt ≤ 1 := tz_1244.1 42
              refine hK_1075 y_1052 ((0 : Int32)) z_1244 ?_
              refine ⟨fun c_1252 => ?_, fun c_1252 => ?_⟩
              · skip
                have i_1258 := i_eq rfl (show (0 : Int32).toInt = 0 by decide) c_1252
                have f_1259 : 0 ≤ (gI z_1244 34).toInt ∧ (gI z_1244 34).toInt ≤ 20 := tz_1244.1 34
                have q_1260 := ((((o_1249.fi 34 (by decide))).trans (o_1238.fi 34 (by decide))).trans (o_1072.fi 34 (by decide))).trans (o_1031.fi 34 (by decide))
                refine ⟨vin (a_mul (show (4 : Int32).toInt = 4 by decide) rfl (by omega) (by omega)) (by omega) (by omega), ?_⟩
                intro z_1253 ez_1253
                have tz_1253 : TM z_1253 := by rw [ez_1253]; exact Ty_wR tz_1244 trivial
                have oz_1253 : Same [34, 37, 38, 39, 41, 42] [24] z z_1253 := oz_1244.r (by decide) ez_1253
                have f_1261 : 0 ≤ (gI z_1253 34).toInt ∧ (gI z_1253 34).toInt ≤ 20 := tz_1253.1 34
                have q_1262 := (((((show (gI z_1253 34).toInt = (gI z_1244 34).toInt by rw [ez_1253]; rfl)).trans (o_1249.fi 34 (by decide))).trans (o_1238.fi 34 (by decide))).trans (o_1072.fi 34 (by decide))).trans (o_1031.fi 34 (by decide))
                refine ⟨vin (a_add (a_mul (show (4 : Int32).toInt = 4 by decide) rfl (by omega) (by omega)) (show (1 : Int32).toInt = 1 by decide) (by omega) (by omega)) (by omega) (by omega), ?_⟩
                intro z_1254 ez_1254
                have tz_1254 : TM z_1254 := by rw [ez_1254]; exact Ty_wR tz_1253 trivial
                have oz_1254 : Same [34, 37, 38, 39, 41, 42] [24] z z_1254 := oz_1253.r (by decide) ez_1254
                have f_1263 : 0 ≤ (gI z_1254 34).toInt ∧ (gI z_1254 34).toInt ≤ 20 := tz_1254.1 34
                have q_1264 := ((((((show (gI z_1254 34).toInt = (gI z_1253 34).toInt by rw [ez_1254]; rfl)).trans (show (gI z_1253 34).toInt = (gI z_1244 34).toInt by rw [ez_1253]; rfl)).trans (o_1249.fi 34 (by decide))).trans (o_1238.fi 34 (by decide))).trans (o_1072.fi 34 (by decide))).trans (o_1031.fi 34 (by decide))
                refine ⟨vin (a_add (a_mul (show (4 : Int32).toInt = 4 by decide) rfl (by omega) (by omega)) (show (2 : Int32).toInt = 2 by decide) (by omega) (by omega)) (by omega) (by omega), ?_⟩
                intro z_1255 ez_1255
                have tz_1255 : TM z_1255 := by rw [ez_1255]; exact Ty_wR tz_1254 trivial
                have oz_1255 : Same [34, 37, 38, 39, 41, 42] [24] z z_1255 := oz_1254.r (by decide) ez_1255
                have f_1265 : 0 ≤ (gI z_1255 34).toInt ∧ (gI z_1255 34).toInt ≤ 20 := tz_1255.1 34
                have q_1266 := (((((((show (gI z_1255 34).toInt = (gI z_1254 34).toInt by rw [ez_1255]; rfl)).trans (show (gI z_1254 34).toInt = (gI z_1253 34).toInt by rw [ez_1254]; rfl)).trans (show (gI z_1253 34).toInt = (gI z_1244 34).toInt by rw [ez_1253]; rfl)).trans (o_1249.fi 34 (by decide))).trans (o_1238.fi 34 (by decide))).trans (o_1072.fi 34 (by decide))).trans (o_1031.fi 34 (by decide))
                refine ⟨vin (a_add (a_mul (show (4 : Int32).toInt = 4 by decide) rfl (by omega) (by omega)) (show (3 : Int32).toInt = 3 by decide) (by omega) (by omega)) (by omega) (by omega), ?_⟩
                intro z_1256 ez_1256
                have tz_1256 : TM z_1256 := by rw [ez_1256]; exact Ty_wR tz_1255 trivial
                have oz_1256 : Same [34, 37, 38, 39, 41, 42] [24] z z_1256 := oz_1255.r (by decide) ez_1256
                intro z_1257 ez_1257
                have f_1267 : 0 ≤ (gI z_1256 34).toInt ∧ (gI z_1256 34).toInt ≤ 20 := tz_1256.1 34
                have q_1268 := ((((((((show (gI z_1256 34).toInt = (gI z_1255 34).toInt by rw [ez_1256]; rfl)).trans (show (gI z_1255 34).toInt = (gI z_1254 34).toInt by rw [ez_1255]; rfl)).trans (show (gI z_1254 34).toInt = (gI z_1253 34).toInt by rw [ez_1254]; rfl)).trans (show (gI z_1253 34).toInt = (gI z_1244 34).toInt by rw [ez_1253]; rfl)).trans (o_1249.fi 34 (by decide))).trans (o_1238.fi 34 (by decide))).trans (o_1072.fi 34 (by decide))).trans (o_1031.fi 34 (by decide))
                have tz_1257 : TM z_1257 := by rw [ez_1257]; exact Ty_wI tz_1256 (show 0 ≤ ((gI z_1256 34) + (1 : Int32)).toInt ∧ ((gI z_1256 34) + (1 : Int32)).toInt ≤ 20 from by rw [(a_add rfl (show (1 : Int32).toInt = 1 by decide) (by omega) (by omega))]; omega)
                have oz_1257 : Same [34, 37, 38, 39, 41, 42] [24] z z_1257 := oz_1256.i (by decide) ez_1257
                have f_1269 : 0 ≤ (gI z_1257 38).toInt ∧ (gI z_1257 38).toInt ≤ 300 := tz_1257.1 38
                have q_1270 := (((((show (gI z_1257 38).toInt = (gI z_1256 38).toInt by rw [ez_1257]; rfl)).trans (show (gI z_1256 38).toInt = (gI z_1255 38).toInt by rw [ez_1256]; rfl)).trans (show (gI z_1255 38).toInt = (gI z_1254 38).toInt by rw [ez_1255]; rfl)).trans (show (gI z_1254 38).toInt = (gI z_1253 38).toInt by rw [ez_1254]; rfl)).trans (show (gI z_1253 38).toInt = (gI z_1244 38).toInt by rw [ez_1253]; rfl)
                have f_1271 : 0 ≤ (gI z_1257 42).toInt ∧ (gI z_1257 42).toInt ≤ 1 := tz_1257.1 42
                have q_1272 := (((((show (gI z_1257 42).toInt = (gI z_1256 42).toInt by rw [ez_1257]; rfl)).trans (show (gI z_1256 42).toInt = (gI z_1255 42).toInt by rw [ez_1256]; rfl)).trans (show (gI z_1255 42).toInt = (gI z_1254 42).toInt by rw [ez_1255]; rfl)).trans (show (gI z_1254 42).toInt = (gI z_1253 42).toInt by rw [ez_1254]; rfl)).trans (show (gI z_1253 42).toInt = (gI z_1244 42).toInt by rw [ez_1253]; rfl)
                have f_1273 : 0 ≤ (gI z_1257 34).toInt ∧ (gI z_1257 34).toInt ≤ 20 := tz_1257.1 34
                have q_1274 := (show (gI z_1257 34).toInt = ((gI z_1256 34) + (1 : Int32)).toInt by rw [ez_1257]; rfl)
                have q_1275 : ((gI z_1256 34) + (1 : Int32)).toInt = ((gI z_1256 34).toInt + (1)) := (a_add rfl (show (1 : Int32).toInt = 1 by decide) (by omega) (by omega))
                exact hk z_1257 tz_1257 oz_1257 (by omega)
              · skip
                have i_1276 := i_ne rfl (show (0 : Int32).toInt = 0 by decide) c_1252
                have f_1277 : 0 ≤ (gI z_1244 34).toInt ∧ (gI z_1244 34).toInt ≤ 20 := tz_1244.1 34
                have q_1278 := ((((o_1249.fi 34 (by decide))).trans (o_1238.fi 34 (by decide))).trans (o_1072.fi 34 (by decide))).trans (o_1031.fi 34 (by decide))
                exact hk z_1244 tz_1244 oz_1244 (by omega)
            · skip
              have i_1279 := i_eq rfl (show (2 : Int32).toInt = 2 by decide) c_1057
              refine ⟨fun c_1058 => ?_, fun c_1058 => ?_⟩
              · skip
                refine hK_1242  ?_
                refine hK_1241 ((0 : Int32)) ?_
                have g_1281 : (0 : Int32).toInt = 0 := by decide
                have f_1282 : 0 ≤ (gI z_1051 36).toInt ∧ (gI z_1051 36).toInt ≤ 300 := tz_1051.1 36
                have q_1283 := (((o_1238.fi 36 (by decide))).trans (o_1072.fi 36 (by decide))).trans (o_1031.fi 36 (by decide))
                refine s_X9_must ((0 : Int32)) z_1051 _ tz_1051 (by omega) (fun z_1280 tz_1280 o_1285 hp_1284 => ?_)
                have oz_1280 : Same [34, 37, 38, 39, 41, 42] [24] z z_1280 := oz_1051.tr o_1285 (by decide) (by decide)
                have f_1286 : 0 ≤ (gI z_1280 38).toInt ∧ (gI z_1280 38).toInt ≤ 300 := tz_1280.1 38
                have f_1287 : 0 ≤ (gI z_1280 42).toInt ∧ (gI z_1280 42).toInt ≤ 1 := tz_1280.1 42
                refine hK_1075 y_1052 ((0 : Int32)) z_1280 ?_
                refine ⟨fun c_1288 => ?_, fun c_1288 => ?_⟩
                · skip
                  have i_1294 := i_eq rfl (show (0 : Int32).toInt = 0 by decide) c_1288
                  have f_1295 : 0 ≤ (gI z_1280 34).toInt ∧ (gI z_1280 34).toInt ≤ 20 := tz_1280.1 34
                  have q_1296 := ((((o_1285.fi 34 (by decide))).trans (o_1238.fi 34 (by decide))).trans (o_1072.fi 34 (by decide))).trans (o_1031.fi 34 (by decide))
                  refine ⟨vin (a_mul (show (4 : Int32).toInt = 4 by decide) rfl (by omega) (by omega)) (by omega) (by omega), ?_⟩
                  intro z_1289 ez_1289
                  have tz_1289 : TM z_1289 := by rw [ez_1289]; exact Ty_wR tz_1280 trivial
                  have oz_1289 : Same [34, 37, 38, 39, 41, 42] [24] z z_1289 := oz_1280.r (by decide) ez_1289
                  have f_1297 : 0 ≤ (gI z_1289 34).toInt ∧ (gI z_1289 34).toInt ≤ 20 := tz_1289.1 34
                  have q_1298 := (((((show (gI z_1289 34).toInt = (gI z_1280 34).toInt by rw [ez_1289]; rfl)).trans (o_1285.fi 34 (by decide))).trans (o_1238.fi 34 (by decide))).trans (o_1072.fi 34 (by decide))).trans (o_1031.fi 34 (by decide))
                  refine ⟨vin (a_add (a_mul (show (4 : Int32).toInt = 4 by decide) rfl (by omega) (by omega)) (show (1 : Int32).toInt = 1 by decide) (by omega) (by omega)) (by omega) (by omega), ?_⟩
                  intro z_1290 ez_1290
                  have tz_1290 : TM z_1290 := by rw [ez_1290]; exact Ty_wR tz_1289 trivial
                  have oz_1290 : Same [34, 37, 38, 39, 41, 42] [24] z z_1290 := oz_1289.r (by decide) ez_1290
                  have f_1299 : 0 ≤ (gI z_1290 34).toInt ∧ (gI z_1290 34).toInt ≤ 20 := tz_1290.1 34
                  have q_1300 := ((((((show (gI z_1290 34).toInt = (gI z_1289 34).toInt by rw [ez_1290]; rfl)).trans (show (gI z_1289 34).toInt = (gI z_1280 34).toInt by rw [ez_1289]; rfl)).trans (o_1285.fi 34 (by decide))).trans (o_1238.fi 34 (by decide))).trans (o_1072.fi 34 (by decide))).trans (o_1031.fi 34 (by decide))
                  refine ⟨vin (a_add (a_mul (show (4 : Int32).toInt = 4 by decide) rfl (by omega) (by omega)) (show (2 : Int32).toInt = 2 by decide) (by omega) (by omega)) (by omega) (by omega), ?_⟩
                  intro z_1291 ez_1291
                  have tz_1291 : TM z_1291 := by rw [ez_1291]; exact Ty_wR tz_1290 trivial
                  have oz_1291 : Same [34, 37, 38, 39, 41, 42] [24] z z_1291 := oz_1290.r (by decide) ez_1291
                  have f_1301 : 0 ≤ (gI z_1291 34).toInt ∧ (gI z_1291 34).toInt ≤ 20 := tz_1291.1 34
                  have q_1302 := (((((((show (gI z_1291 34).toInt = (gI z_1290 34).toInt by rw [ez_1291]; rfl)).trans (show (gI z_1290 34).toInt = (gI z_1289 34).toInt by rw [ez_1290]; rfl)).trans (show (gI z_1289 34).toInt = (gI z_1280 34).toInt by rw [ez_1289]; rfl)).trans (o_1285.fi 34 (by decide))).trans (o_1238.fi 34 (by decide))).trans (o_1072.fi 34 (by decide))).trans (o_1031.fi 34 (by decide))
                  refine ⟨vin (a_add (a_mul (show (4 : Int32).toInt = 4 by decide) rfl (by omega) (by omega)) (show (3 : Int32).toInt = 3 by decide) (by omega) (by omega)) (by omega) (by omega), ?_⟩
                  intro z_1292 ez_1292
                  have tz_1292 : TM z_1292 := by rw [ez_1292]; exact Ty_wR tz_1291 trivial
                  have oz_1292 : Same [34, 37, 38, 39, 41, 42] [24] z z_1292 := oz_1291.r (by decide) ez_1292
                  intro z_1293 ez_1293
                  have f_1303 : 0 ≤ (gI z_1292 34).toInt ∧ (gI z_1292 34).toInt ≤ 20 := tz_1292.1 34
                  have q_1304 := ((((((((show (gI z_1292 34).toInt = (gI z_1291 34).toInt by rw [ez_1292]; rfl)).trans (show (gI z_1291 34).toInt = (gI z_1290 34).toInt by rw [ez_1291]; rfl)).trans (show (gI z_1290 34).toInt = (gI z_1289 34).toInt by rw [ez_1290]; rfl)).trans (show (gI z_1289 34).toInt = (gI z_1280 34).toInt by rw [ez_1289]; rfl)).trans (o_1285.fi 34 (by decide))).trans (o_1238.fi 34 (by decide))).trans (o_1072.fi 34 (by decide))).trans (o_1031.fi 34 (by decide))
                  have tz_1293 : TM z_1293 := by rw [ez_1293]; exact Ty_wI tz_1292 (show 0 ≤ ((gI z_1292 34) + (1 : Int32)).toInt ∧ ((gI z_1292 34) + (1 : Int32)).toInt ≤ 20 from by rw [(a_add rfl (show (1 : Int32).toInt = 1 by decide) (by omega) (by omega))]; omega)
                  have oz_1293 : Same [34, 37, 38, 39, 41, 42] [24] z z_1293 := oz_1292.i (by decide) ez_1293
                  have f_1305 : 0 ≤ (gI z_1293 38).toInt ∧ (gI z_1293 38).toInt ≤ 300 := tz_1293.1 38
                  have q_1306 := (((((show (gI z_1293 38).toInt = (gI z_1292 38).toInt by rw [ez_1293]; rfl)).trans (show (gI z_1292 38).toInt = (gI z_1291 38).toInt by rw [ez_1292]; rfl)).trans (show (gI z_1291 38).toInt = (gI z_1290 38).toInt by rw [ez_1291]; rfl)).trans (show (gI z_1290 38).toInt = (gI z_1289 38).toInt by rw [ez_1290]; rfl)).trans (show (gI z_1289 38).toInt = (gI z_1280 38).toInt by rw [ez_1289]; rfl)
                  have f_1307 : 0 ≤ (gI z_1293 42).toInt ∧ (gI z_1293 42).toInt ≤ 1 := tz_1293.1 42
                  have q_1308 := (((((show (gI z_1293 42).toInt = (gI z_1292 42).toInt by rw [ez_1293]; rfl)).trans (show (gI z_1292 42).toInt = (gI z_1291 42).toInt by rw [ez_1292]; rfl)).trans (show (gI z_1291 42).toInt = (gI z_1290 42).toInt by rw [ez_1291]; rfl)).trans (show (gI z_1290 42).toInt = (gI z_1289 42).toInt by rw [ez_1290]; rfl)).trans (show (gI z_1289 42).toInt = (gI z_1280 42).toInt by rw [ez_1289]; rfl)
                  have f_1309 : 0 ≤ (gI z_1293 34).toInt ∧ (gI z_1293 34).toInt ≤ 20 := tz_1293.1 34
                  have q_1310 := (show (gI z_1293 34).toInt = ((gI z_1292 34) + (1 : Int32)).toInt by rw [ez_1293]; rfl)
                  have q_1311 : ((gI z_1292 34) + (1 : Int32)).toInt = ((gI z_1292 34).toInt + (1)) := (a_add rfl (show (1 : Int32).toInt = 1 by decide) (by omega) (by omega))
                  exact hk z_1293 tz_1293 oz_1293 (by omega)
                · skip
                  have i_1312 := i_ne rfl (show (0 : Int32).toInt = 0 by decide) c_1288
                  have f_1313 : 0 ≤ (gI z_1280 34).toInt ∧ (gI z_1280 34).toInt ≤ 20 := tz_1280.1 34
                  have q_1314 := ((((o_1285.fi 34 (by decide))).trans (o_1238.fi 34 (by decide))).trans (o_1072.fi 34 (by decide))).trans (o_1031.fi 34 (by decide))
                  exact hk z_1280 tz_1280 oz_1280 (by omega)
              · skip
                refine ⟨fun c_1059 => ?_, fun c_1059 => ?_⟩
                · skip
                  refine hK_1242  ?_
                  refine hK_1241 ((0 : Int32)) ?_
                  have g_1316 : (0 : Int32).toInt = 0 := by decide
                  have f_1317 : 0 ≤ (gI z_1051 36).toInt ∧ (gI z_1051 36).toInt ≤ 300 := tz_1051.1 36
                  have q_1318 := (((o_1238.fi 36 (by decide))).trans (o_1072.fi 36 (by decide))).trans (o_1031.fi 36 (by decide))
                  refine s_X9_must ((0 : Int32)) z_1051 _ tz_1051 (by omega) (fun z_1315 tz_1315 o_1320 hp_1319 => ?_)
                  have oz_1315 : Same [34, 37, 38, 39, 41, 42] [24] z z_1315 := oz_1051.tr o_1320 (by decide) (by decide)
                  have f_1321 : 0 ≤ (gI z_1315 38).toInt ∧ (gI z_1315 38).toInt ≤ 300 := tz_1315.1 38
                  have f_1322 : 0 ≤ (gI z_1315 42).toInt ∧ (gI z_1315 42).toInt ≤ 1 := tz_1315.1 42
                  refine hK_1075 y_1052 ((0 : Int32)) z_1315 ?_
                  refine ⟨fun c_1323 => ?_, fun c_1323 => ?_⟩
                  · skip
                    have i_1329 := i_eq rfl (show (0 : Int32).toInt = 0 by decide) c_1323
                    have f_1330 : 0 ≤ (gI z_1315 34).toInt ∧ (gI z_1315 34).toInt ≤ 20 := tz_1315.1 34
                    have q_1331 := ((((o_1320.fi 34 (by decide))).trans (o_1238.fi 34 (by decide))).trans (o_1072.fi 34 (by decide))).trans (o_1031.fi 34 (by decide))
                    refine ⟨vin (a_mul (show (4 : Int32).toInt = 4 by decide) rfl (by omega) (by omega)) (by omega) (by omega), ?_⟩
                    intro z_1324 ez_1324
                    have tz_1324 : TM z_1324 := by rw [ez_1324]; exact Ty_wR tz_1315 trivial
                    have oz_1324 : Same [34, 37, 38, 39, 41, 42] [24] z z_1324 := oz_1315.r (by decide) ez_1324
                    have f_1332 : 0 ≤ (gI z_1324 34).toInt ∧ (gI z_1324 34).toInt ≤ 20 := tz_1324.1 34
                    have q_1333 := (((((show (gI z_1324 34).toInt = (gI z_1315 34).toInt by rw [ez_1324]; rfl)).trans (o_1320.fi 34 (by decide))).trans (o_1238.fi 34 (by decide))).trans (o_1072.fi 34 (by decide))).trans (o_1031.fi 34 (by decide))
                    refine ⟨vin (a_add (a_mul (show (4 : Int32).toInt = 4 by decide) rfl (by omega) (by omega)) (show (1 : Int32).toInt = 1 by decide) (by omega) (by omega)) (by omega) (by omega), ?_⟩
                    intro z_1325 ez_1325
                    have tz_1325 : TM z_1325 := by rw [ez_1325]; exact Ty_wR tz_1324 trivial
                    have oz_1325 : Same [34, 37, 38, 39, 41, 42] [24] z z_1325 := oz_1324.r (by decide) ez_1325
                    have f_1334 : 0 ≤ (gI z_1325 34).toInt ∧ (gI z_1325 34).toInt ≤ 20 := tz_1325.1 34
                    have q_1335 := ((((((show (gI z_1325 34).toInt = (gI z_1324 34).toInt by rw [ez_1325]; rfl)).trans (show (gI z_1324 34).toInt = (gI z_1315 34).toInt by rw [ez_1324]; rfl)).trans (o_1320.fi 34 (by decide))).trans (o_1238.fi 34 (by decide))).trans (o_1072.fi 34 (by decide))).trans (o_1031.fi 34 (by decide))
                    refine ⟨vin (a_add (a_mul (show (4 : Int32).toInt = 4 by decide) rfl (by omega) (by omega)) (show (2 : Int32).toInt = 2 by decide) (by omega) (by omega)) (by omega) (by omega), ?_⟩
                    intro z_1326 ez_1326
                    have tz_1326 : TM z_1326 := by rw [ez_1326]; exact Ty_wR tz_1325 trivial
                    have oz_1326 : Same [34, 37, 38, 39, 41, 42] [24] z z_1326 := oz_1325.r (by decide) ez_1326
                    have f_1336 : 0 ≤ (gI z_1326 34).toInt ∧ (gI z_1326 34).toInt ≤ 20 := tz_1326.1 34
                    have q_1337 := (((((((show (gI z_1326 34).toInt = (gI z_1325 34).toInt by rw [ez_1326]; rfl)).trans (show (gI z_1325 34).toInt = (gI z_1324 34).toInt by rw [ez_1325]; rfl)).trans (show (gI z_1324 34).toInt = (gI z_1315 34).toInt by rw [ez_1324]; rfl)).trans (o_1320.fi 34 (by decide))).trans (o_1238.fi 34 (by decide))).trans (o_1072.fi 34 (by decide))).trans (o_1031.fi 34 (by decide))
                    refine ⟨vin (a_add (a_mul (show (4 : Int32).toInt = 4 by decide) rfl (by omega) (by omega)) (show (3 : Int32).toInt = 3 by decide) (by omega) (by omega)) (by omega) (by omega), ?_⟩
                    intro z_1327 ez_1327
                    have tz_1327 : TM z_1327 := by rw [ez_1327]; exact Ty_wR tz_1326 trivial
                    have oz_1327 : Same [34, 37, 38, 39, 41, 42] [24] z z_1327 := oz_1326.r (by decide) ez_1327
                    intro z_1328 ez_1328
                    have f_1338 : 0 ≤ (gI z_1327 34).toInt ∧ (gI z_1327 34).toInt ≤ 20 := tz_1327.1 34
                    have q_1339 := ((((((((show (gI z_1327 34).toInt = (gI z_1326 34).toInt by rw [ez_1327]; rfl)).trans (show (gI z_1326 34).toInt = (gI z_1325 34).toInt by rw [ez_1326]; rfl)).trans (show (gI z_1325 34).toInt = (gI z_1324 34).toInt by rw [ez_1325]; rfl)).trans (show (gI z_1324 34).toInt = (gI z_1315 34).toInt by rw [ez_1324]; rfl)).trans (o_1320.fi 34 (by decide))).trans (o_1238.fi 34 (by decide))).trans (o_1072.fi 34 (by decide))).trans (o_1031.fi 34 (by decide))
                    have tz_1328 : TM z_1328 := by rw [ez_1328]; exact Ty_wI tz_1327 (show 0 ≤ ((gI z_1327 34) + (1 : Int32)).toInt ∧ ((gI z_1327 34) + (1 : Int32)).toInt ≤ 20 from by rw [(a_add rfl (show (1 : Int32).toInt = 1 by decide) (by omega) (by omega))]; omega)
                    have oz_1328 : Same [34, 37, 38, 39, 41, 42] [24] z z_1328 := oz_1327.i (by decide) ez_1328
                    have f_1340 : 0 ≤ (gI z_1328 38).toInt ∧ (gI z_1328 38).toInt ≤ 300 := tz_1328.1 38
                    have q_1341 := (((((show (gI z_1328 38).toInt = (gI z_1327 38).toInt by rw [ez_1328]; rfl)).trans (show (gI z_1327 38).toInt = (gI z_1326 38).toInt by rw [ez_1327]; rfl)).trans (show (gI z_1326 38).toInt = (gI z_1325 38).toInt by rw [ez_1326]; rfl)).trans (show (gI z_1325 38).toInt = (gI z_1324 38).toInt by rw [ez_1325]; rfl)).trans (show (gI z_1324 38).toInt = (gI z_1315 38).toInt by rw [ez_1324]; rfl)
                    have f_1342 : 0 ≤ (gI z_1328 42).toInt ∧ (gI z_1328 42).toInt ≤ 1 := tz_1328.1 42
                    have q_1343 := (((((show (gI z_1328 42).toInt = (gI z_1327 42).toInt by rw [ez_1328]; rfl)).trans (show (gI z_1327 42).toInt = (gI z_1326 42).toInt by rw [ez_1327]; rfl)).trans (show (gI z_1326 42).toInt = (gI z_1325 42).toInt by rw [ez_1326]; rfl)).trans (show (gI z_1325 42).toInt = (gI z_1324 42).toInt by rw [ez_1325]; rfl)).trans (show (gI z_1324 42).toInt = (gI z_1315 42).toInt by rw [ez_1324]; rfl)
                    have f_1344 : 0 ≤ (gI z_1328 34).toInt ∧ (gI z_1328 34).toInt ≤ 20 := tz_1328.1 34
                    have q_1345 := (show (gI z_1328 34).toInt = ((gI z_1327 34) + (1 : Int32)).toInt by rw [ez_1328]; rfl)
                    have q_1346 : ((gI z_1327 34) + (1 : Int32)).toInt = ((gI z_1327 34).toInt + (1)) := (a_add rfl (show (1 : Int32).toInt = 1 by decide) (by omega) (by omega))
                    exact hk z_1328 tz_1328 oz_1328 (by omega)
                  · skip
                    have i_1347 := i_ne rfl (show (0 : Int32).toInt = 0 by decide) c_1323
                    have f_1348 : 0 ≤ (gI z_1315 34).toInt ∧ (gI z_1315 34).toInt ≤ 20 := tz_1315.1 34
                    have q_1349 := ((((o_1320.fi 34 (by decide))).trans (o_1238.fi 34 (by decide))).trans (o_1072.fi 34 (by decide))).trans (o_1031.fi 34 (by decide))
                    exact hk z_1315 tz_1315 oz_1315 (by omega)
                · skip
                  refine hK_1241 ((1 : Int32)) ?_
                  have g_1351 : (1 : Int32).toInt = 1 := by decide
                  have f_1352 : 0 ≤ (gI z_1051 36).toInt ∧ (gI z_1051 36).toInt ≤ 300 := tz_1051.1 36
                  have q_1353 := (((o_1238.fi 36 (by decide))).trans (o_1072.fi 36 (by decide))).trans (o_1031.fi 36 (by decide))
                  refine s_X9_must ((1 : Int32)) z_1051 _ tz_1051 (by omega) (fun z_1350 tz_1350 o_1355 hp_1354 => ?_)
                  have oz_1350 : Same [34, 37, 38, 39, 41, 42] [24] z z_1350 := oz_1051.tr o_1355 (by decide) (by decide)
                  have f_1356 : 0 ≤ (gI z_1350 38).toInt ∧ (gI z_1350 38).toInt ≤ 300 := tz_1350.1 38
                  have f_1357 : 0 ≤ (gI z_1350 42).toInt ∧ (gI z_1350 42).toInt ≤ 1 := tz_1350.1 42
                  refine hK_1075 y_1052 ((0 : Int32)) z_1350 ?_
                  refine ⟨fun c_1358 => ?_, fun c_1358 => ?_⟩
                  · skip
                    have i_1364 := i_eq rfl (show (0 : Int32).toInt = 0 by decide) c_1358
                    have f_1365 : 0 ≤ (gI z_1350 34).toInt ∧ (gI z_1350 34).toInt ≤ 20 := tz_1350.1 34
                    have q_1366 := ((((o_1355.fi 34 (by decide))).trans (o_1238.fi 34 (by decide))).trans (o_1072.fi 34 (by decide))).trans (o_1031.fi 34 (by decide))
                    refine ⟨vin (a_mul (show (4 : Int32).toInt = 4 by decide) rfl (by omega) (by omega)) (by omega) (by omega), ?_⟩
                    intro z_1359 ez_1359
                    have tz_1359 : TM z_1359 := by rw [ez_1359]; exact Ty_wR tz_1350 trivial
                    have oz_1359 : Same [34, 37, 38, 39, 41, 42] [24] z z_1359 := oz_1350.r (by decide) ez_1359
                    have f_1367 : 0 ≤ (gI z_1359 34).toInt ∧ (gI z_1359 34).toInt ≤ 20 := tz_1359.1 34
                    have q_1368 := (((((show (gI z_1359 34).toInt = (gI z_1350 34).toInt by rw [ez_1359]; rfl)).trans (o_1355.fi 34 (by decide))).trans (o_1238.fi 34 (by decide))).trans (o_1072.fi 34 (by decide))).trans (o_1031.fi 34 (by decide))
                    refine ⟨vin (a_add (a_mul (show (4 : Int32).toInt = 4 by decide) rfl (by omega) (by omega)) (show (1 : Int32).toInt = 1 by decide) (by omega) (by omega)) (by omega) (by omega), ?_⟩
                    intro z_1360 ez_1360
                    have tz_1360 : TM z_1360 := by rw [ez_1360]; exact Ty_wR tz_1359 trivial
                    have oz_1360 : Same [34, 37, 38, 39, 41, 42] [24] z z_1360 := oz_1359.r (by decide) ez_1360
                    have f_1369 : 0 ≤ (gI z_1360 34).toInt ∧ (gI z_1360 34).toInt ≤ 20 := tz_1360.1 34
                    have q_1370 := ((((((show (gI z_1360 34).toInt = (gI z_1359 34).toInt by rw [ez_1360]; rfl)).trans (show (gI z_1359 34).toInt = (gI z_1350 34).toInt by rw [ez_1359]; rfl)).trans (o_1355.fi 34 (by decide))).trans (o_1238.fi 34 (by decide))).trans (o_1072.fi 34 (by decide))).trans (o_1031.fi 34 (by decide))
                    refine ⟨vin (a_add (a_mul (show (4 : Int32).toInt = 4 by decide) rfl (by omega) (by omega)) (show (2 : Int32).toInt = 2 by decide) (by omega) (by omega)) (by omega) (by omega), ?_⟩
                    intro z_1361 ez_1361
                    have tz_1361 : TM z_1361 := by rw [ez_1361]; exact Ty_wR tz_1360 trivial
                    have oz_1361 : Same [34, 37, 38, 39, 41, 42] [24] z z_1361 := oz_1360.r (by decide) ez_1361
                    have f_1371 : 0 ≤ (gI z_1361 34).toInt ∧ (gI z_1361 34).toInt ≤ 20 := tz_1361.1 34
                    have q_1372 := (((((((show (gI z_1361 34).toInt = (gI z_1360 34).toInt by rw [ez_1361]; rfl)).trans (show (gI z_1360 34).toInt = (gI z_1359 34).toInt by rw [ez_1360]; rfl)).trans (show (gI z_1359 34).toInt = (gI z_1350 34).toInt by rw [ez_1359]; rfl)).trans (o_1355.fi 34 (by decide))).trans (o_1238.fi 34 (by decide))).trans (o_1072.fi 34 (by decide))).trans (o_1031.fi 34 (by decide))
                    refine ⟨vin (a_add (a_mul (show (4 : Int32).toInt = 4 by decide) rfl (by omega) (by omega)) (show (3 : Int32).toInt = 3 by decide) (by omega) (by omega)) (by omega) (by omega), ?_⟩
                    intro z_1362 ez_1362
                    have tz_1362 : TM z_1362 := by rw [ez_1362]; exact Ty_wR tz_1361 trivial
                    have oz_1362 : Same [34, 37, 38, 39, 41, 42] [24] z z_1362 := oz_1361.r (by decide) ez_1362
                    intro z_1363 ez_1363
                    have f_1373 : 0 ≤ (gI z_1362 34).toInt ∧ (gI z_1362 34).toInt ≤ 20 := tz_1362.1 34
                    have q_1374 := ((((((((show (gI z_1362 34).toInt = (gI z_1361 34).toInt by rw [ez_1362]; rfl)).trans (show (gI z_1361 34).toInt = (gI z_1360 34).toInt by rw [ez_1361]; rfl)).trans (show (gI z_1360 34).toInt = (gI z_1359 34).toInt by rw [ez_1360]; rfl)).trans (show (gI z_1359 34).toInt = (gI z_1350 34).toInt by rw [ez_1359]; rfl)).trans (o_1355.fi 34 (by decide))).trans (o_1238.fi 34 (by decide))).trans (o_1072.fi 34 (by decide))).trans (o_1031.fi 34 (by decide))
                    have tz_1363 : TM z_1363 := by rw [ez_1363]; exact Ty_wI tz_1362 (show 0 ≤ ((gI z_1362 34) + (1 : Int32)).toInt ∧ ((gI z_1362 34) + (1 : Int32)).toInt ≤ 20 from by rw [(a_add rfl (show (1 : Int32).toInt = 1 by decide) (by omega) (by omega))]; omega)
                    have oz_1363 : Same [34, 37, 38, 39, 41, 42] [24] z z_1363 := oz_1362.i (by decide) ez_1363
                    have f_1375 : 0 ≤ (gI z_1363 38).toInt ∧ (gI z_1363 38).toInt ≤ 300 := tz_1363.1 38
                    have q_1376 := (((((show (gI z_1363 38).toInt = (gI z_1362 38).toInt by rw [ez_1363]; rfl)).trans (show (gI z_1362 38).toInt = (gI z_1361 38).toInt by rw [ez_1362]; rfl)).trans (show (gI z_1361 38).toInt = (gI z_1360 38).toInt by rw [ez_1361]; rfl)).trans (show (gI z_1360 38).toInt = (gI z_1359 38).toInt by rw [ez_1360]; rfl)).trans (show (gI z_1359 38).toInt = (gI z_1350 38).toInt by rw [ez_1359]; rfl)
                    have f_1377 : 0 ≤ (gI z_1363 42).toInt ∧ (gI z_1363 42).toInt ≤ 1 := tz_1363.1 42
                    have q_1378 := (((((show (gI z_1363 42).toInt = (gI z_1362 42).toInt by rw [ez_1363]; rfl)).trans (show (gI z_1362 42).toInt = (gI z_1361 42).toInt by rw [ez_1362]; rfl)).trans (show (gI z_1361 42).toInt = (gI z_1360 42).toInt by rw [ez_1361]; rfl)).trans (show (gI z_1360 42).toInt = (gI z_1359 42).toInt by rw [ez_1360]; rfl)).trans (show (gI z_1359 42).toInt = (gI z_1350 42).toInt by rw [ez_1359]; rfl)
                    have f_1379 : 0 ≤ (gI z_1363 34).toInt ∧ (gI z_1363 34).toInt ≤ 20 := tz_1363.1 34
                    have q_1380 := (show (gI z_1363 34).toInt = ((gI z_1362 34) + (1 : Int32)).toInt by rw [ez_1363]; rfl)
                    have q_1381 : ((gI z_1362 34) + (1 : Int32)).toInt = ((gI z_1362 34).toInt + (1)) := (a_add rfl (show (1 : Int32).toInt = 1 by decide) (by omega) (by omega))
                    exact hk z_1363 tz_1363 oz_1363 (by omega)
                  · skip
                    have i_1382 := i_ne rfl (show (0 : Int32).toInt = 0 by decide) c_1358
                    have f_1383 : 0 ≤ (gI z_1350 34).toInt ∧ (gI z_1350 34).toInt ≤ 20 := tz_1350.1 34
                    have q_1384 := ((((o_1355.fi 34 (by decide))).trans (o_1238.fi 34 (by decide))).trans (o_1072.fi 34 (by decide))).trans (o_1031.fi 34 (by decide))
                    exact hk z_1350 tz_1350 oz_1350 (by omega)
        · skip
          have f_1385 : 0 ≤ (gI z 34).toInt ∧ (gI z 34).toInt ≤ 20 := ht.1 34
          have i_1386 := i_nle (show (20 : Int32).toInt = 20 by decide) rfl c_985
          refine hK_986 ((1 : Int32)) ?_
          have g_1424 : (1 : Int32).toInt = 1 := by decide
          have f_1425 : 0 ≤ (gI z 38).toInt ∧ (gI z 38).toInt ≤ 300 := ht.1 38
          have f_1426 : 0 ≤ (gI z 36).toInt ∧ (gI z 36).toInt ≤ 300 := ht.1 36
          refine s_X9_must ((1 : Int32)) z _ ht (by omega) (fun z_1387 tz_1387 o_1428 hp_1427 => ?_)
          have oz_1387 : Same [34, 37, 38, 39, 41, 42] [24] z z_1387 := (Same.rf (z := z)).tr o_1428 (by decide) (by decide)
          have f_1429 : 0 ≤ (gI z_1387 38).toInt ∧ (gI z_1387 38).toInt ≤ 300 := tz_1387.1 38
          have f_1430 : 0 ≤ (gI z_1387 42).toInt ∧ (gI z_1387 42).toInt ≤ 1 := tz_1387.1 42
          have f_1431 : 0 ≤ (gI z 42).toInt ∧ (gI z 42).toInt ≤ 1 := ht.1 42
          intro K_1388 hK_1432
          refine ⟨fun _ => ?_, fun hc => absurd hc (by decide)⟩
          refine ⟨fun _ => ?_, fun hc => absurd hc (by decide)⟩
          refine hK_1432 ((15 : Int64)) ?_
          have g_1465 : (15 : Int64).toInt = 15 := by decide
          have f_1466 : 0 ≤ (gI z_1387 36).toInt ∧ (gI z_1387 36).toInt ≤ 300 := tz_1387.1 36
          have q_1467 := (o_1428.fi 36 (by decide))
          refine s_X9_number ((15 : Int64)) z_1387 _ tz_1387 (by omega) (fun r_1433 z_1434 tz_1434 o_1469 hp_1468 => ?_)
          have oz_1434 : Same [34, 37, 38, 39, 41, 42] [24] z z_1434 := oz_1387.tr o_1469 (by decide) (by decide)
          have f_1470 : 0 ≤ (gI z_1434 38).toInt ∧ (gI z_1434 38).toInt ≤ 300 := tz_1434.1 38
          have f_1471 : 0 ≤ (gI z_1434 42).toInt ∧ (gI z_1434 42).toInt ≤ 1 := tz_1434.1 42
          intro K_1435 hK_1472
          refine ⟨fun _ => ?_, fun hc => absurd hc (by decide)⟩
          refine ⟨fun hc => absurd hc (by decide), fun _ => ?_⟩
          have g_1473 : (98 : Int32).toInt = 98 := by decide
          have g_1474 : (101 : Int32).toInt = 101 := by decide
          have g_1475 : (102 : Int32).toInt = 102 := by decide
          have g_1476 : (111 : Int32).toInt = 111 := by decide
          have g_1477 : (114 : Int32).toInt = 114 := by decide
          have g_1478 : (101 : Int32).toInt = 101 := by decide
          refine s_X9_isWord ((98 : Int32)) ((101 : Int32)) ((102 : Int32)) ((111 : Int32)) ((114 : Int32)) ((101 : Int32)) z_1434 _ tz_1434  (fun r_1447 hp_1479 => ?_)
          rcases hp_1479 with ⟨er_1447, hp_1479⟩ | ⟨er_1447, hp_1479⟩
          · subst er_1447
            have g_1480 : (1 : Int32).toInt = 1 := by decide
            have f_1481 : 0 ≤ (gI z_1434 36).toInt ∧ (gI z_1434 36).toInt ≤ 300 := tz_1434.1 36
            have q_1482 := ((o_1469.fi 36 (by decide))).trans (o_1428.fi 36 (by decide))
            refine s_X9_must ((1 : Int32)) z_1434 _ tz_1434 (by omega) (fun z_1448 tz_1448 o_1484 hp_1483 => ?_)
            have oz_1448 : Same [34, 37, 38, 39, 41, 42] [24] z z_1448 := oz_1434.tr o_1484 (by decide) (by decide)
            have f_1485 : 0 ≤ (gI z_1448 38).toInt ∧ (gI z_1448 38).toInt ≤ 300 := tz_1448.1 38
            have f_1486 : 0 ≤ (gI z_1448 42).toInt ∧ (gI z_1448 42).toInt ≤ 1 := tz_1448.1 42
            intro y_1449 ey_1449
            have iy_1449 : y_1449.toInt = (Int64.toInt32 (gJ z_1448 40)).toInt := by rw [ey_1449]
            intro K_1450 hK_1487
            intro K_1453 hK_1488
            refine ⟨fun c_1454 => ?_, fun c_1454 => ?_⟩
            · skip
              have i_1489 := i_ne rfl (show (2 : Int32).toInt = 2 by decide) c_1454
              refine hK_1488  ?_
              refine hK_1487 ((0 : Int32)) ?_
              have g_1491 : (0 : Int32).toInt = 0 := by decide
              have f_1492 : 0 ≤ (gI z_1448 36).toInt ∧ (gI z_1448 36).toInt ≤ 300 := tz_1448.1 36
              have q_1493 := (((o_1484.fi 36 (by decide))).trans (o_1469.fi 36 (by decide))).trans (o_1428.fi 36 (by decide))
              refine s_X9_must ((0 : Int32)) z_1448 _ tz_1448 (by omega) (fun z_1490 tz_1490 o_1495 hp_1494 => ?_)
              have oz_1490 : Same [34, 37, 38, 39, 41, 42] [24] z z_1490 := oz_1448.tr o_1495 (by decide) (by decide)
              have f_1496 : 0 ≤ (gI z_1490 38).toInt ∧ (gI z_1490 38).toInt ≤ 300 := tz_1490.1 38
              have f_1497 : 0 ≤ (gI z_1490 42).toInt ∧ (gI z_1490 42).toInt ≤ 1 := tz_1490.1 42
              refine hK_1472 y_1449 ((0 : Int32)) z_1490 ?_
              refine ⟨fun c_1498 => ?_, fun c_1498 => ?_⟩
              · skip
                have i_1504 := i_eq rfl (show (0 : Int32).toInt = 0 by decide) c_1498
                have f_1505 : 0 ≤ (gI z_1490 34).toInt ∧ (gI z_1490 34).toInt ≤ 20 := tz_1490.1 34
                have q_1506 := ((((o_1495.fi 34 (by decide))).trans (o_1484.fi 34 (by decide))).trans (o_1469.fi 34 (by decide))).trans (o_1428.fi 34 (by decide))
                refine ⟨vin (a_mul (show (4 : Int32).toInt = 4 by decide) rfl (by omega) (by omega)) (by omega) (by omega), ?_⟩
                intro z_1499 ez_1499
                have tz_1499 : TM z_1499 := by rw [ez_1499]; exact Ty_wR tz_1490 trivial
                have oz_1499 : Same [34, 37, 38, 39, 41, 42] [24] z z_1499 := oz_1490.r (by decide) ez_1499
                have f_1507 : 0 ≤ (gI z_1499 34).toInt ∧ (gI z_1499 34).toInt ≤ 20 := tz_1499.1 34
                have q_1508 := (((((show (gI z_1499 34).toInt = (gI z_1490 34).toInt by rw [ez_1499]; rfl)).trans (o_1495.fi 34 (by decide))).trans (o_1484.fi 34 (by decide))).trans (o_1469.fi 34 (by decide))).trans (o_1428.fi 34 (by decide))
                refine ⟨vin (a_add (a_mul (show (4 : Int32).toInt = 4 by decide) rfl (by omega) (by omega)) (show (1 : Int32).toInt = 1 by decide) (by omega) (by omega)) (by omega) (by omega), ?_⟩
                intro z_1500 ez_1500
                have tz_1500 : TM z_1500 := by rw [ez_1500]; exact Ty_wR tz_1499 trivial
                have oz_1500 : Same [34, 37, 38, 39, 41, 42] [24] z z_1500 := oz_1499.r (by decide) ez_1500
                have f_1509 : 0 ≤ (gI z_1500 34).toInt ∧ (gI z_1500 34).toInt ≤ 20 := tz_1500.1 34
                have q_1510 := ((((((show (gI z_1500 34).toInt = (gI z_1499 34).toInt by rw [ez_1500]; rfl)).trans (show (gI z_1499 34).toInt = (gI z_1490 34).toInt by rw [ez_1499]; rfl)).trans (o_1495.fi 34 (by decide))).trans (o_1484.fi 34 (by decide))).trans (o_1469.fi 34 (by decide))).trans (o_1428.fi 34 (by decide))
                refine ⟨vin (a_add (a_mul (show (4 : Int32).toInt = 4 by decide) rfl (by omega) (by omega)) (show (2 : Int32).toInt = 2 by decide) (by omega) (by omega)) (by omega) (by omega), ?_⟩
                intro z_1501 ez_1501
                have tz_1501 : TM z_1501 := by rw [ez_1501]; exact Ty_wR tz_1500 trivial
                have oz_1501 : Same [34, 37, 38, 39, 41, 42] [24] z z_1501 := oz_1500.r (by decide) ez_1501
                have f_1511 : 0 ≤ (gI z_1501 34).toInt ∧ (gI z_1501 34).toInt ≤ 20 := tz_1501.1 34
                have q_1512 := (((((((show (gI z_1501 34).toInt = (gI z_1500 34).toInt by rw [ez_1501]; rfl)).trans (show (gI z_1500 34).toInt = (gI z_1499 34).toInt by rw [ez_1500]; rfl)).trans (show (gI z_1499 34).toInt = (gI z_1490 34).toInt by rw [ez_1499]; rfl)).trans (o_1495.fi 34 (by decide))).trans (o_1484.fi 34 (by decide))).trans (o_1469.fi 34 (by decide))).trans (o_1428.fi 34 (by decide))
                refine ⟨vin (a_add (a_mul (show (4 : Int32).toInt = 4 by decide) rfl (by omega) (by omega)) (show (3 : Int32).toInt = 3 by decide) (by omega) (by omega)) (by omega) (by omega), ?_⟩
                intro z_1502 ez_1502
                have tz_1502 : TM z_1502 := by rw [ez_1502]; exact Ty_wR tz_1501 trivial
                have oz_1502 : Same [34, 37, 38, 39, 41, 42] [24] z z_1502 := oz_1501.r (by decide) ez_1502
                intro z_1503 ez_1503
                have f_1513 : 0 ≤ (gI z_1502 34).toInt ∧ (gI z_1502 34).toInt ≤ 20 := tz_1502.1 34
                have q_1514 := ((((((((show (gI z_1502 34).toInt = (gI z_1501 34).toInt by rw [ez_1502]; rfl)).trans (show (gI z_1501 34).toInt = (gI z_1500 34).toInt by rw [ez_1501]; rfl)).trans (show (gI z_1500 34).toInt = (gI z_1499 34).toInt by rw [ez_1500]; rfl)).trans (show (gI z_1499 34).toInt = (gI z_1490 34).toInt by rw [ez_1499]; rfl)).trans (o_1495.fi 34 (by decide))).trans (o_1484.fi 34 (by decide))).trans (o_1469.fi 34 (by decide))).trans (o_1428.fi 34 (by decide))
                have tz_1503 : TM z_1503 := by rw [ez_1503]; exact Ty_wI tz_1502 (show 0 ≤ ((gI z_1502 34) + (1 : Int32)).toInt ∧ ((gI z_1502 34) + (1 : Int32)).toInt ≤ 20 from by rw [(a_add rfl (show (1 : Int32).toInt = 1 by decide) (by omega) (by omega))]; omega)
                have oz_1503 : Same [34, 37, 38, 39, 41, 42] [24] z z_1503 := oz_1502.i (by decide) ez_1503
                have f_1515 : 0 ≤ (gI z_1503 38).toInt ∧ (gI z_1503 38).toInt ≤ 300 := tz_1503.1 38
                have q_1516 := (((((show (gI z_1503 38).toInt = (gI z_1502 38).toInt by rw [ez_1503]; rfl)).trans (show (gI z_1502 38).toInt = (gI z_1501 38).toInt by rw [ez_1502]; rfl)).trans (show (gI z_1501 38).toInt = (gI z_1500 38).toInt by rw [ez_1501]; rfl)).trans (show (gI z_1500 38).toInt = (gI z_1499 38).toInt by rw [ez_1500]; rfl)).trans (show (gI z_1499 38).toInt = (gI z_1490 38).toInt by rw [ez_1499]; rfl)
                have f_1517 : 0 ≤ (gI z_1503 42).toInt ∧ (gI z_1503 42).toInt ≤ 1 := tz_1503.1 42
                have q_1518 := (((((show (gI z_1503 42).toInt = (gI z_1502 42).toInt by rw [ez_1503]; rfl)).trans (show (gI z_1502 42).toInt = (gI z_1501 42).toInt by rw [ez_1502]; rfl)).trans (show (gI z_1501 42).toInt = (gI z_1500 42).toInt by rw [ez_1501]; rfl)).trans (show (gI z_1500 42).toInt = (gI z_1499 42).toInt by rw [ez_1500]; rfl)).trans (show (gI z_1499 42).toInt = (gI z_1490 42).toInt by rw [ez_1499]; rfl)
                have f_1519 : 0 ≤ (gI z_1503 34).toInt ∧ (gI z_1503 34).toInt ≤ 20 := tz_1503.1 34
                have q_1520 := (show (gI z_1503 34).toInt = ((gI z_1502 34) + (1 : Int32)).toInt by rw [ez_1503]; rfl)
                have q_1521 : ((gI z_1502 34) + (1 : Int32)).toInt = ((gI z_1502 34).toInt + (1)) := (a_add rfl (show (1 : Int32).toInt = 1 by decide) (by omega) (by omega))
                exact hk z_1503 tz_1503 oz_1503 (by omega)
              · skip
                have i_1522 := i_ne rfl (show (0 : Int32).toInt = 0 by decide) c_1498
                have f_1523 : 0 ≤ (gI z_1490 34).toInt ∧ (gI z_1490 34).toInt ≤ 20 := tz_1490.1 34
                have q_1524 := ((((o_1495.fi 34 (by decide))).trans (o_1484.fi 34 (by decide))).trans (o_1469.fi 34 (by decide))).trans (o_1428.fi 34 (by decide))
                exact hk z_1490 tz_1490 oz_1490 (by omega)
            · skip
              have i_1525 := i_eq rfl (show (2 : Int32).toInt = 2 by decide) c_1454
              refine ⟨fun c_1455 => ?_, fun c_1455 => ?_⟩
              · skip
                refine hK_1488  ?_
                refine hK_1487 ((0 : Int32)) ?_
                have g_1527 : (0 : Int32).toInt = 0 := by decide
                have f_1528 : 0 ≤ (gI z_1448 36).toInt ∧ (gI z_1448 36).toInt ≤ 300 := tz_1448.1 36
                have q_1529 := (((o_1484.fi 36 (by decide))).trans (o_1469.fi 36 (by decide))).trans (o_1428.fi 36 (by decide))
                refine s_X9_must ((0 : Int32)) z_1448 _ tz_1448 (by omega) (fun z_1526 tz_1526 o_1531 hp_1530 => ?_)
                have oz_1526 : Same [34, 37, 38, 39, 41, 42] [24] z z_1526 := oz_1448.tr o_1531 (by decide) (by decide)
                have f_1532 : 0 ≤ (gI z_1526 38).toInt ∧ (gI z_1526 38).toInt ≤ 300 := tz_1526.1 38
                have f_1533 : 0 ≤ (gI z_1526 42).toInt ∧ (gI z_1526 42).toInt ≤ 1 := tz_1526.1 42
                refine hK_1472 y_1449 ((0 : Int32)) z_1526 ?_
                refine ⟨fun c_1534 => ?_, fun c_1534 => ?_⟩
                · skip
                  have i_1540 := i_eq rfl (show (0 : Int32).toInt = 0 by decide) c_1534
                  have f_1541 : 0 ≤ (gI z_1526 34).toInt ∧ (gI z_1526 34).toInt ≤ 20 := tz_1526.1 34
                  have q_1542 := ((((o_1531.fi 34 (by decide))).trans (o_1484.fi 34 (by decide))).trans (o_1469.fi 34 (by decide))).trans (o_1428.fi 34 (by decide))
                  refine ⟨vin (a_mul (show (4 : Int32).toInt = 4 by decide) rfl (by omega) (by omega)) (by omega) (by omega), ?_⟩
                  intro z_1535 ez_1535
                  have tz_1535 : TM z_1535 := by rw [ez_1535]; exact Ty_wR tz_1526 trivial
                  have oz_1535 : Same [34, 37, 38, 39, 41, 42] [24] z z_1535 := oz_1526.r (by decide) ez_1535
                  have f_1543 : 0 ≤ (gI z_1535 34).toInt ∧ (gI z_1535 34).toInt ≤ 20 := tz_1535.1 34
                  have q_1544 := (((((show (gI z_1535 34).toInt = (gI z_1526 34).toInt by rw [ez_1535]; rfl)).trans (o_1531.fi 34 (by decide))).trans (o_1484.fi 34 (by decide))).trans (o_1469.fi 34 (by decide))).trans (o_1428.fi 34 (by decide))
                  refine ⟨vin (a_add (a_mul (show (4 : Int32).toInt = 4 by decide) rfl (by omega) (by omega)) (show (1 : Int32).toInt = 1 by decide) (by omega) (by omega)) (by omega) (by omega), ?_⟩
                  intro z_1536 ez_1536
                  have tz_1536 : TM z_1536 := by rw [ez_1536]; exact Ty_wR tz_1535 trivial
                  have oz_1536 : Same [34, 37, 38, 39, 41, 42] [24] z z_1536 := oz_1535.r (by decide) ez_1536
                  have f_1545 : 0 ≤ (gI z_1536 34).toInt ∧ (gI z_1536 34).toInt ≤ 20 := tz_1536.1 34
                  have q_1546 := ((((((show (gI z_1536 34).toInt = (gI z_1535 34).toInt by rw [ez_1536]; rfl)).trans (show (gI z_1535 34).toInt = (gI z_1526 34).toInt by rw [ez_1535]; rfl)).trans (o_1531.fi 34 (by decide))).trans (o_1484.fi 34 (by decide))).trans (o_1469.fi 34 (by decide))).trans (o_1428.fi 34 (by decide))
                  refine ⟨vin (a_add (a_mul (show (4 : Int32).toInt = 4 by decide) rfl (by omega) (by omega)) (show (2 : Int32).toInt = 2 by decide) (by omega) (by omega)) (by omega) (by omega), ?_⟩
                  intro z_1537 ez_1537
                  have tz_1537 : TM z_1537 := by rw [ez_1537]; exact Ty_wR tz_1536 trivial
                  have oz_1537 : Same [34, 37, 38, 39, 41, 42] [24] z z_1537 := oz_1536.r (by decide) ez_1537
                  have f_1547 : 0 ≤ (gI z_1537 34).toInt ∧ (gI z_1537 34).toInt ≤ 20 := tz_1537.1 34
                  have q_1548 := (((((((show (gI z_1537 34).toInt = (gI z_1536 34).toInt by rw [ez_1537]; rfl)).trans (show (gI z_1536 34).toInt = (gI z_1535 34).toInt by rw [ez_1536]; rfl)).trans (show (gI z_1535 34).toInt = (gI z_1526 34).toInt by rw [ez_1535]; rfl)).trans (o_1531.fi 34 (by decide))).trans (o_1484.fi 34 (by decide))).trans (o_1469.fi 34 (by decide))).trans (o_1428.fi 34 (by decide))
                  refine ⟨vin (a_add (a_mul (show (4 : Int32).toInt = 4 by decide) rfl (by omega) (by omega)) (show (3 : Int32).toInt = 3 by decide) (by omega) (by omega)) (by omega) (by omega), ?_⟩
                  intro z_1538 ez_1538
                  have tz_1538 : TM z_1538 := by rw [ez_1538]; exact Ty_wR tz_1537 trivial
                  have oz_1538 : Same [34, 37, 38, 39, 41, 42] [24] z z_1538 := oz_1537.r (by decide) ez_1538
                  intro z_1539 ez_1539
                  have f_1549 : 0 ≤ (gI z_1538 34).toInt ∧ (gI z_1538 34).toInt ≤ 20 := tz_1538.1 34
                  have q_1550 := ((((((((show (gI z_1538 34).toInt = (gI z_1537 34).toInt by rw [ez_1538]; rfl)).trans (show (gI z_1537 34).toInt = (gI z_1536 34).toInt by rw [ez_1537]; rfl)).trans (show (gI z_1536 34).toInt = (gI z_1535 34).toInt by rw [ez_1536]; rfl)).trans (show (gI z_1535 34).toInt = (gI z_1526 34).toInt by rw [ez_1535]; rfl)).trans (o_1531.fi 34 (by decide))).trans (o_1484.fi 34 (by decide))).trans (o_1469.fi 34 (by decide))).trans (o_1428.fi 34 (by decide))
                  have tz_1539 : TM z_1539 := by rw [ez_1539]; exact Ty_wI tz_1538 (show 0 ≤ ((gI z_1538 34) + (1 : Int32)).toInt ∧ ((gI z_1538 34) + (1 : Int32)).toInt ≤ 20 from by rw [(a_add rfl (show (1 : Int32).toInt = 1 by decide) (by omega) (by omega))]; omega)
                  have oz_1539 : Same [34, 37, 38, 39, 41, 42] [24] z z_1539 := oz_1538.i (by decide) ez_1539
                  have f_1551 : 0 ≤ (gI z_1539 38).toInt ∧ (gI z_1539 38).toInt ≤ 300 := tz_1539.1 38
                  have q_1552 := (((((show (gI z_1539 38).toInt = (gI z_1538 38).toInt by rw [ez_1539]; rfl)).trans (show (gI z_1538 38).toInt = (gI z_1537 38).toInt by rw [ez_1538]; rfl)).trans (show (gI z_1537 38).toInt = (gI z_1536 38).toInt by rw [ez_1537]; rfl)).trans (show (gI z_1536 38).toInt = (gI z_1535 38).toInt by rw [ez_1536]; rfl)).trans (show (gI z_1535 38).toInt = (gI z_1526 38).toInt by rw [ez_1535]; rfl)
                  have f_1553 : 0 ≤ (gI z_1539 42).toInt ∧ (gI z_1539 42).toInt ≤ 1 := tz_1539.1 42
                  have q_1554 := (((((show (gI z_1539 42).toInt = (gI z_1538 42).toInt by rw [ez_1539]; rfl)).trans (show (gI z_1538 42).toInt = (gI z_1537 42).toInt by rw [ez_1538]; rfl)).trans (show (gI z_1537 42).toInt = (gI z_1536 42).toInt by rw [ez_1537]; rfl)).trans (show (gI z_1536 42).toInt = (gI z_1535 42).toInt by rw [ez_1536]; rfl)).trans (show (gI z_1535 42).toInt = (gI z_1526 42).toInt by rw [ez_1535]; rfl)
                  have f_1555 : 0 ≤ (gI z_1539 34).toInt ∧ (gI z_1539 34).toInt ≤ 20 := tz_1539.1 34
                  have q_1556 := (show (gI z_1539 34).toInt = ((gI z_1538 34) + (1 : Int32)).toInt by rw [ez_1539]; rfl)
                  have q_1557 : ((gI z_1538 34) + (1 : Int32)).toInt = ((gI z_1538 34).toInt + (1)) := (a_add rfl (show (1 : Int32).toInt = 1 by decide) (by omega) (by omega))
                  exact hk z_1539 tz_1539 oz_1539 (by omega)
                · skip
                  have i_1558 := i_ne rfl (show (0 : Int32).toInt = 0 by decide) c_1534
                  have f_1559 : 0 ≤ (gI z_1526 34).toInt ∧ (gI z_1526 34).toInt ≤ 20 := tz_1526.1 34
                  have q_1560 := ((((o_1531.fi 34 (by decide))).trans (o_1484.fi 34 (by decide))).trans (o_1469.fi 34 (by decide))).trans (o_1428.fi 34 (by decide))
                  exact hk z_1526 tz_1526 oz_1526 (by omega)
              · skip
                refine ⟨fun c_1456 => ?_, fun c_1456 => ?_⟩
                · skip
                  refine hK_1488  ?_
                  refine hK_1487 ((0 : Int32)) ?_
                  have g_1562 : (0 : Int32).toInt = 0 := by decide
                  have f_1563 : 0 ≤ (gI z_1448 36).toInt ∧ (gI z_1448 36).toInt ≤ 300 := tz_1448.1 36
                  have q_1564 := (((o_1484.fi 36 (by decide))).trans (o_1469.fi 36 (by decide))).trans (o_1428.fi 36 (by decide))
                  refine s_X9_must ((0 : Int32)) z_1448 _ tz_1448 (by omega) (fun z_1561 tz_1561 o_1566 hp_1565 => ?_)
                  have oz_1561 : Same [34, 37, 38, 39, 41, 42] [24] z z_1561 := oz_1448.tr o_1566 (by decide) (by decide)
                  have f_1567 : 0 ≤ (gI z_1561 38).toInt ∧ (gI z_1561 38).toInt ≤ 300 := tz_1561.1 38
                  have f_1568 : 0 ≤ (gI z_1561 42).toInt ∧ (gI z_1561 42).toInt ≤ 1 := tz_1561.1 42
                  refine hK_1472 y_1449 ((0 : Int32)) z_1561 ?_
                  refine ⟨fun c_1569 => ?_, fun c_1569 => ?_⟩
                  · skip
                    have i_1575 := i_eq rfl (show (0 : Int32).toInt = 0 by decide) c_1569
                    have f_1576 : 0 ≤ (gI z_1561 34).toInt ∧ (gI z_1561 34).toInt ≤ 20 := tz_1561.1 34
                    have q_1577 := ((((o_1566.fi 34 (by decide))).trans (o_1484.fi 34 (by decide))).trans (o_1469.fi 34 (by decide))).trans (o_1428.fi 34 (by decide))
                    refine ⟨vin (a_mul (show (4 : Int32).toInt = 4 by decide) rfl (by omega) (by omega)) (by omega) (by omega), ?_⟩
                    intro z_1570 ez_1570
                    have tz_1570 : TM z_1570 := by rw [ez_1570]; exact Ty_wR tz_1561 trivial
                    have oz_1570 : Same [34, 37, 38, 39, 41, 42] [24] z z_1570 := oz_1561.r (by decide) ez_1570
                    have f_1578 : 0 ≤ (gI z_1570 34).toInt ∧ (gI z_1570 34).toInt ≤ 20 := tz_1570.1 34
                    have q_1579 := (((((show (gI z_1570 34).toInt = (gI z_1561 34).toInt by rw [ez_1570]; rfl)).trans (o_1566.fi 34 (by decide))).trans (o_1484.fi 34 (by decide))).trans (o_1469.fi 34 (by decide))).trans (o_1428.fi 34 (by decide))
                    refine ⟨vin (a_add (a_mul (show (4 : Int32).toInt = 4 by decide) rfl (by omega) (by omega)) (show (1 : Int32).toInt = 1 by decide) (by omega) (by omega)) (by omega) (by omega), ?_⟩
                    intro z_1571 ez_1571
                    have tz_1571 : TM z_1571 := by rw [ez_1571]; exact Ty_wR tz_1570 trivial
                    have oz_1571 : Same [34, 37, 38, 39, 41, 42] [24] z z_1571 := oz_1570.r (by decide) ez_1571
                    have f_1580 : 0 ≤ (gI z_1571 34).toInt ∧ (gI z_1571 34).toInt ≤ 20 := tz_1571.1 34
                    have q_1581 := ((((((show (gI z_1571 34).toInt = (gI z_1570 34).toInt by rw [ez_1571]; rfl)).trans (show (gI z_1570 34).toInt = (gI z_1561 34).toInt by rw [ez_1570]; rfl)).trans (o_1566.fi 34 (by decide))).trans (o_1484.fi 34 (by decide))).trans (o_1469.fi 34 (by decide))).trans (o_1428.fi 34 (by decide))
                    refine ⟨vin (a_add (a_mul (show (4 : Int32).toInt = 4 by decide) rfl (by omega) (by omega)) (show (2 : Int32).toInt = 2 by decide) (by omega) (by omega)) (by omega) (by omega), ?_⟩
                    intro z_1572 ez_1572
                    have tz_1572 : TM z_1572 := by rw [ez_1572]; exact Ty_wR tz_1571 trivial
                    have oz_1572 : Same [34, 37, 38, 39, 41, 42] [24] z z_1572 := oz_1571.r (by decide) ez_1572
                    have f_1582 : 0 ≤ (gI z_1572 34).toInt ∧ (gI z_1572 34).toInt ≤ 20 := tz_1572.1 34
                    have q_1583 := (((((((show (gI z_1572 34).toInt = (gI z_1571 34).toInt by rw [ez_1572]; rfl)).trans (show (gI z_1571 34).toInt = (gI z_1570 34).toInt by rw [ez_1571]; rfl)).trans (show (gI z_1570 34).toInt = (gI z_1561 34).toInt by rw [ez_1570]; rfl)).trans (o_1566.fi 34 (by decide))).trans (o_1484.fi 34 (by decide))).trans (o_1469.fi 34 (by decide))).trans (o_1428.fi 34 (by decide))
                    refine ⟨vin (a_add (a_mul (show (4 : Int32).toInt = 4 by decide) rfl (by omega) (by omega)) (show (3 : Int32).toInt = 3 by decide) (by omega) (by omega)) (by omega) (by omega), ?_⟩
                    intro z_1573 ez_1573
                    have tz_1573 : TM z_1573 := by rw [ez_1573]; exact Ty_wR tz_1572 trivial
                    have oz_1573 : Same [34, 37, 38, 39, 41, 42] [24] z z_1573 := oz_1572.r (by decide) ez_1573
                    intro z_1574 ez_1574
                    have f_1584 : 0 ≤ (gI z_1573 34).toInt ∧ (gI z_1573 34).toInt ≤ 20 := tz_1573.1 34
                    have q_1585 := ((((((((show (gI z_1573 34).toInt = (gI z_1572 34).toInt by rw [ez_1573]; rfl)).trans (show (gI z_1572 34).toInt = (gI z_1571 34).toInt by rw [ez_1572]; rfl)).trans (show (gI z_1571 34).toInt = (gI z_1570 34).toInt by rw [ez_1571]; rfl)).trans (show (gI z_1570 34).toInt = (gI z_1561 34).toInt by rw [ez_1570]; rfl)).trans (o_1566.fi 34 (by decide))).trans (o_1484.fi 34 (by decide))).trans (o_1469.fi 34 (by decide))).trans (o_1428.fi 34 (by decide))
                    have tz_1574 : TM z_1574 := by rw [ez_1574]; exact Ty_wI tz_1573 (show 0 ≤ ((gI z_1573 34) + (1 : Int32)).toInt ∧ ((gI z_1573 34) + (1 : Int32)).toInt ≤ 20 from by rw [(a_add rfl (show (1 : Int32).toInt = 1 by decide) (by omega) (by omega))]; omega)
                    have oz_1574 : Same [34, 37, 38, 39, 41, 42] [24] z z_1574 := oz_1573.i (by decide) ez_1574
                    have f_1586 : 0 ≤ (gI z_1574 38).toInt ∧ (gI z_1574 38).toInt ≤ 300 := tz_1574.1 38
                    have q_1587 := (((((show (gI z_1574 38).toInt = (gI z_1573 38).toInt by rw [ez_1574]; rfl)).trans (show (gI z_1573 38).toInt = (gI z_1572 38).toInt by rw [ez_1573]; rfl)).trans (show (gI z_1572 38).toInt = (gI z_1571 38).toInt by rw [ez_1572]; rfl)).trans (show (gI z_1571 38).toInt = (gI z_1570 38).toInt by rw [ez_1571]; rfl)).trans (show (gI z_1570 38).toInt = (gI z_1561 38).toInt by rw [ez_1570]; rfl)
                    have f_1588 : 0 ≤ (gI z_1574 42).toInt ∧ (gI z_1574 42).toInt ≤ 1 := tz_1574.1 42
                    have q_1589 := (((((show (gI z_1574 42).toInt = (gI z_1573 42).toInt by rw [ez_1574]; rfl)).trans (show (gI z_1573 42).toInt = (gI z_1572 42).toInt by rw [ez_1573]; rfl)).trans (show (gI z_1572 42).toInt = (gI z_1571 42).toInt by rw [ez_1572]; rfl)).trans (show (gI z_1571 42).toInt = (gI z_1570 42).toInt by rw [ez_1571]; rfl)).trans (show (gI z_1570 42).toInt = (gI z_1561 42).toInt by rw [ez_1570]; rfl)
                    have f_1590 : 0 ≤ (gI z_1574 34).toInt ∧ (gI z_1574 34).toInt ≤ 20 := tz_1574.1 34
                    have q_1591 := (show (gI z_1574 34).toInt = ((gI z_1573 34) + (1 : Int32)).toInt by rw [ez_1574]; rfl)
                    have q_1592 : ((gI z_1573 34) + (1 : Int32)).toInt = ((gI z_1573 34).toInt + (1)) := (a_add rfl (show (1 : Int32).toInt = 1 by decide) (by omega) (by omega))
                    exact hk z_1574 tz_1574 oz_1574 (by omega)
                  · skip
                    have i_1593 := i_ne rfl (show (0 : Int32).toInt = 0 by decide) c_1569
                    have f_1594 : 0 ≤ (gI z_1561 34).toInt ∧ (gI z_1561 34).toInt ≤ 20 := tz_1561.1 34
                    have q_1595 := ((((o_1566.fi 34 (by decide))).trans (o_1484.fi 34 (by decide))).trans (o_1469.fi 34 (by decide))).trans (o_1428.fi 34 (by decide))
                    exact hk z_1561 tz_1561 oz_1561 (by omega)
                · skip
                  refine hK_1487 ((1 : Int32)) ?_
                  have g_1597 : (1 : Int32).toInt = 1 := by decide
                  have f_1598 : 0 ≤ (gI z_1448 36).toInt ∧ (gI z_1448 36).toInt ≤ 300 := tz_1448.1 36
                  have q_1599 := (((o_1484.fi 36 (by decide))).trans (o_1469.fi 36 (by decide))).trans (o_1428.fi 36 (by decide))
                  refine s_X9_must ((1 : Int32)) z_1448 _ tz_1448 (by omega) (fun z_1596 tz_1596 o_1601 hp_1600 => ?_)
                  have oz_1596 : Same [34, 37, 38, 39, 41, 42] [24] z z_1596 := oz_1448.tr o_1601 (by decide) (by decide)
                  have f_1602 : 0 ≤ (gI z_1596 38).toInt ∧ (gI z_1596 38).toInt ≤ 300 := tz_1596.1 38
                  have f_1603 : 0 ≤ (gI z_1596 42).toInt ∧ (gI z_1596 42).toInt ≤ 1 := tz_1596.1 42
                  refine hK_1472 y_1449 ((0 : Int32)) z_1596 ?_
                  refine ⟨fun c_1604 => ?_, fun c_1604 => ?_⟩
                  · skip
                    have i_1610 := i_eq rfl (show (0 : Int32).toInt = 0 by decide) c_1604
                    have f_1611 : 0 ≤ (gI z_1596 34).toInt ∧ (gI z_1596 34).toInt ≤ 20 := tz_1596.1 34
                    have q_1612 := ((((o_1601.fi 34 (by decide))).trans (o_1484.fi 34 (by decide))).trans (o_1469.fi 34 (by decide))).trans (o_1428.fi 34 (by decide))
                    refine ⟨vin (a_mul (show (4 : Int32).toInt = 4 by decide) rfl (by omega) (by omega)) (by omega) (by omega), ?_⟩
                    intro z_1605 ez_1605
                    have tz_1605 : TM z_1605 := by rw [ez_1605]; exact Ty_wR tz_1596 trivial
                    have oz_1605 : Same [34, 37, 38, 39, 41, 42] [24] z z_1605 := oz_1596.r (by decide) ez_1605
                    have f_1613 : 0 ≤ (gI z_1605 34).toInt ∧ (gI z_1605 34).toInt ≤ 20 := tz_1605.1 34
                    have q_1614 := (((((show (gI z_1605 34).toInt = (gI z_1596 34).toInt by rw [ez_1605]; rfl)).trans (o_1601.fi 34 (by decide))).trans (o_1484.fi 34 (by decide))).trans (o_1469.fi 34 (by decide))).trans (o_1428.fi 34 (by decide))
                    refine ⟨vin (a_add (a_mul (show (4 : Int32).toInt = 4 by decide) rfl (by omega) (by omega)) (show (1 : Int32).toInt = 1 by decide) (by omega) (by omega)) (by omega) (by omega), ?_⟩
                    intro z_1606 ez_1606
                    have tz_1606 : TM z_1606 := by rw [ez_1606]; exact Ty_wR tz_1605 trivial
                    have oz_1606 : Same [34, 37, 38, 39, 41, 42] [24] z z_1606 := oz_1605.r (by decide) ez_1606
                    have f_1615 : 0 ≤ (gI z_1606 34).toInt ∧ (gI z_1606 34).toInt ≤ 20 := tz_1606.1 34
                    have q_1616 := ((((((show (gI z_1606 34).toInt = (gI z_1605 34).toInt by rw [ez_1606]; rfl)).trans (show (gI z_1605 34).toInt = (gI z_1596 34).toInt by rw [ez_1605]; rfl)).trans (o_1601.fi 34 (by decide))).trans (o_1484.fi 34 (by decide))).trans (o_1469.fi 34 (by decide))).trans (o_1428.fi 34 (by decide))
                    refine ⟨vin (a_add (a_mul (show (4 : Int32).toInt = 4 by decide) rfl (by omega) (by omega)) (show (2 : Int32).toInt = 2 by decide) (by omega) (by omega)) (by omega) (by omega), ?_⟩
                    intro z_1607 ez_1607
                    have tz_1607 : TM z_1607 := by rw [ez_1607]; exact Ty_wR tz_1606 trivial
                    have oz_1607 : Same [34, 37, 38, 39, 41, 42] [24] z z_1607 := oz_1606.r (by decide) ez_1607
                    have f_1617 : 0 ≤ (gI z_1607 34).toInt ∧ (gI z_1607 34).toInt ≤ 20 := tz_1607.1 34
                    have q_1618 := (((((((show (gI z_1607 34).toInt = (gI z_1606 34).toInt by rw [ez_1607]; rfl)).trans (show (gI z_1606 34).toInt = (gI z_1605 34).toInt by rw [ez_1606]; rfl)).trans (show (gI z_1605 34).toInt = (gI z_1596 34).toInt by rw [ez_1605]; rfl)).trans (o_1601.fi 34 (by decide))).trans (o_1484.fi 34 (by decide))).trans (o_1469.fi 34 (by decide))).trans (o_1428.fi 34 (by decide))
                    refine ⟨vin (a_add (a_mul (show (4 : Int32).toInt = 4 by decide) rfl (by omega) (by omega)) (show (3 : Int32).toInt = 3 by decide) (by omega) (by omega)) (by omega) (by omega), ?_⟩
                    intro z_1608 ez_1608
                    have tz_1608 : TM z_1608 := by rw [ez_1608]; exact Ty_wR tz_1607 trivial
                    have oz_1608 : Same [34, 37, 38, 39, 41, 42] [24] z z_1608 := oz_1607.r (by decide) ez_1608
                    intro z_1609 ez_1609
                    have f_1619 : 0 ≤ (gI z_1608 34).toInt ∧ (gI z_1608 34).toInt ≤ 20 := tz_1608.1 34
                    have q_1620 := ((((((((show (gI z_1608 34).toInt = (gI z_1607 34).toInt by rw [ez_1608]; rfl)).trans (show (gI z_1607 34).toInt = (gI z_1606 34).toInt by rw [ez_1607]; rfl)).trans (show (gI z_1606 34).toInt = (gI z_1605 34).toInt by rw [ez_1606]; rfl)).trans (show (gI z_1605 34).toInt = (gI z_1596 34).toInt by rw [ez_1605]; rfl)).trans (o_1601.fi 34 (by decide))).trans (o_1484.fi 34 (by decide))).trans (o_1469.fi 34 (by decide))).trans (o_1428.fi 34 (by decide))
                    have tz_1609 : TM z_1609 := by rw [ez_1609]; exact Ty_wI tz_1608 (show 0 ≤ ((gI z_1608 34) + (1 : Int32)).toInt ∧ ((gI z_1608 34) + (1 : Int32)).toInt ≤ 20 from by rw [(a_add rfl (show (1 : Int32).toInt = 1 by decide) (by omega) (by omega))]; omega)
                    have oz_1609 : Same [34, 37, 38, 39, 41, 42] [24] z z_1609 := oz_1608.i (by decide) ez_1609
                    have f_1621 : 0 ≤ (gI z_1609 38).toInt ∧ (gI z_1609 38).toInt ≤ 300 := tz_1609.1 38
                    have q_1622 := (((((show (gI z_1609 38).toInt = (gI z_1608 38).toInt by rw [ez_1609]; rfl)).trans (show (gI z_1608 38).toInt = (gI z_1607 38).toInt by rw [ez_1608]; rfl)).trans (show (gI z_1607 38).toInt = (gI z_1606 38).toInt by rw [ez_1607]; rfl)).trans (show (gI z_1606 38).toInt = (gI z_1605 38).toInt by rw [ez_1606]; rfl)).trans (show (gI z_1605 38).toInt = (gI z_1596 38).toInt by rw [ez_1605]; rfl)
                    have f_1623 : 0 ≤ (gI z_1609 42).toInt ∧ (gI z_1609 42).toInt ≤ 1 := tz_1609.1 42
                    have q_1624 := (((((show (gI z_1609 42).toInt = (gI z_1608 42).toInt by rw [ez_1609]; rfl)).trans (show (gI z_1608 42).toInt = (gI z_1607 42).toInt by rw [ez_1608]; rfl)).trans (show (gI z_1607 42).toInt = (gI z_1606 42).toInt by rw [ez_1607]; rfl)).trans (show (gI z_1606 42).toInt = (gI z_1605 42).toInt by rw [ez_1606]; rfl)).trans (show (gI z_1605 42).toInt = (gI z_1596 42).toInt by rw [ez_1605]; rfl)
                    have f_1625 : 0 ≤ (gI z_1609 34).toInt ∧ (gI z_1609 34).toInt ≤ 20 := tz_1609.1 34
                    have q_1626 := (show (gI z_1609 34).toInt = ((gI z_1608 34) + (1 : Int32)).toInt by rw [ez_1609]; rfl)
                    have q_1627 : ((gI z_1608 34) + (1 : Int32)).toInt = ((gI z_1608 34).toInt + (1)) := (a_add rfl (show (1 : Int32).toInt = 1 by decide) (by omega) (by omega))
                    exact hk z_1609 tz_1609 oz_1609 (by omega)
                  · skip
                    have i_1628 := i_ne rfl (show (0 : Int32).toInt = 0 by decide) c_1604
                    have f_1629 : 0 ≤ (gI z_1596 34).toInt ∧ (gI z_1596 34).toInt ≤ 20 := tz_1596.1 34
                    have q_1630 := ((((o_1601.fi 34 (by decide))).trans (o_1484.fi 34 (by decide))).trans (o_1469.fi 34 (by decide))).trans (o_1428.fi 34 (by decide))
                    exact hk z_1596 tz_1596 oz_1596 (by omega)
          · subst er_1447
            have g_1631 : (0 : Int32).toInt = 0 := by decide
            have f_1632 : 0 ≤ (gI z_1434 36).toInt ∧ (gI z_1434 36).toInt ≤ 300 := tz_1434.1 36
            have q_1633 := ((o_1469.fi 36 (by decide))).trans (o_1428.fi 36 (by decide))
            refine s_X9_must ((0 : Int32)) z_1434 _ tz_1434 (by omega) (fun z_1448 tz_1448 o_1635 hp_1634 => ?_)
            have oz_1448 : Same [34, 37, 38, 39, 41, 42] [24] z z_1448 := oz_1434.tr o_1635 (by decide) (by decide)
            have f_1636 : 0 ≤ (gI z_1448 38).toInt ∧ (gI z_1448 38).toInt ≤ 300 := tz_1448.1 38
            have f_1637 : 0 ≤ (gI z_1448 42).toInt ∧ (gI z_1448 42).toInt ≤ 1 := tz_1448.1 42
            intro y_1449 ey_1449
            have iy_1449 : y_1449.toInt = (Int64.toInt32 (gJ z_1448 40)).toInt := by rw [ey_1449]
            intro K_1450 hK_1638
            intro K_1453 hK_1639
            refine ⟨fun c_1454 => ?_, fun c_1454 => ?_⟩
            · skip
              have i_1640 := i_ne rfl (show (2 : Int32).toInt = 2 by decide) c_1454
              refine hK_1639  ?_
              refine hK_1638 ((0 : Int32)) ?_
              have g_1642 : (0 : Int32).toInt = 0 := by decide
              have f_1643 : 0 ≤ (gI z_1448 36).toInt ∧ (gI z_1448 36).toInt ≤ 300 := tz_1448.1 36
              have q_1644 := (((o_1635.fi 36 (by decide))).trans (o_1469.fi 36 (by decide))).trans (o_1428.fi 36 (by decide))
              refine s_X9_must ((0 : Int32)) z_1448 _ tz_1448 (by omega) (fun z_1641 tz_1641 o_1646 hp_1645 => ?_)
              have oz_1641 : Same [34, 37, 38, 39, 41, 42] [24] z z_1641 := oz_1448.tr o_1646 (by decide) (by decide)
              have f_1647 : 0 ≤ (gI z_1641 38).toInt ∧ (gI z_1641 38).toInt ≤ 300 := tz_1641.1 38
              have f_1648 : 0 ≤ (gI z_1641 42).toInt ∧ (gI z_1641 42).toInt ≤ 1 := tz_1641.1 42
              refine hK_1472 y_1449 ((0 : Int32)) z_1641 ?_
              refine ⟨fun c_1649 => ?_, fun c_1649 => ?_⟩
              · skip
                have i_1655 := i_eq rfl (show (0 : Int32).toInt = 0 by decide) c_1649
                have f_1656 : 0 ≤ (gI z_1641 34).toInt ∧ (gI z_1641 34).toInt ≤ 20 := tz_1641.1 34
                have q_1657 := ((((o_1646.fi 34 (by decide))).trans (o_1635.fi 34 (by decide))).trans (o_1469.fi 34 (by decide))).trans (o_1428.fi 34 (by decide))
                refine ⟨vin (a_mul (show (4 : Int32).toInt = 4 by decide) rfl (by omega) (by omega)) (by omega) (by omega), ?_⟩
                intro z_1650 ez_1650
                have tz_1650 : TM z_1650 := by rw [ez_1650]; exact Ty_wR tz_1641 trivial
                have oz_1650 : Same [34, 37, 38, 39, 41, 42] [24] z z_1650 := oz_1641.r (by decide) ez_1650
                have f_1658 : 0 ≤ (gI z_1650 34).toInt ∧ (gI z_1650 34).toInt ≤ 20 := tz_1650.1 34
                have q_1659 := (((((show (gI z_1650 34).toInt = (gI z_1641 34).toInt by rw [ez_1650]; rfl)).trans (o_1646.fi 34 (by decide))).trans (o_1635.fi 34 (by decide))).trans (o_1469.fi 34 (by decide))).trans (o_1428.fi 34 (by decide))
                refine ⟨vin (a_add (a_mul (show (4 : Int32).toInt = 4 by decide) rfl (by omega) (by omega)) (show (1 : Int32).toInt = 1 by decide) (by omega) (by omega)) (by omega) (by omega), ?_⟩
                intro z_1651 ez_1651
                have tz_1651 : TM z_1651 := by rw [ez_1651]; exact Ty_wR tz_1650 trivial
                have oz_1651 : Same [34, 37, 38, 39, 41, 42] [24] z z_1651 := oz_1650.r (by decide) ez_1651
                have f_1660 : 0 ≤ (gI z_1651 34).toInt ∧ (gI z_1651 34).toInt ≤ 20 := tz_1651.1 34
                have q_1661 := ((((((show (gI z_1651 34).toInt = (gI z_1650 34).toInt by rw [ez_1651]; rfl)).trans (show (gI z_1650 34).toInt = (gI z_1641 34).toInt by rw [ez_1650]; rfl)).trans (o_1646.fi 34 (by decide))).trans (o_1635.fi 34 (by decide))).trans (o_1469.fi 34 (by decide))).trans (o_1428.fi 34 (by decide))
                refine ⟨vin (a_add (a_mul (show (4 : Int32).toInt = 4 by decide) rfl (by omega) (by omega)) (show (2 : Int32).toInt = 2 by decide) (by omega) (by omega)) (by omega) (by omega), ?_⟩
                intro z_1652 ez_1652
                have tz_1652 : TM z_1652 := by rw [ez_1652]; exact Ty_wR tz_1651 trivial
                have oz_1652 : Same [34, 37, 38, 39, 41, 42] [24] z z_1652 := oz_1651.r (by decide) ez_1652
                have f_1662 : 0 ≤ (gI z_1652 34).toInt ∧ (gI z_1652 34).toInt ≤ 20 := tz_1652.1 34
                have q_1663 := (((((((show (gI z_1652 34).toInt = (gI z_1651 34).toInt by rw [ez_1652]; rfl)).trans (show (gI z_1651 34).toInt = (gI z_1650 34).toInt by rw [ez_1651]; rfl)).trans (show (gI z_1650 34).toInt = (gI z_1641 34).toInt by rw [ez_1650]; rfl)).trans (o_1646.fi 34 (by decide))).trans (o_1635.fi 34 (by decide))).trans (o_1469.fi 34 (by decide))).trans (o_1428.fi 34 (by decide))
                refine ⟨vin (a_add (a_mul (show (4 : Int32).toInt = 4 by decide) rfl (by omega) (by omega)) (show (3 : Int32).toInt = 3 by decide) (by omega) (by omega)) (by omega) (by omega), ?_⟩
                intro z_1653 ez_1653
                have tz_1653 : TM z_1653 := by rw [ez_1653]; exact Ty_wR tz_1652 trivial
                have oz_1653 : Same [34, 37, 38, 39, 41, 42] [24] z z_1653 := oz_1652.r (by decide) ez_1653
                intro z_1654 ez_1654
                have f_1664 : 0 ≤ (gI z_1653 34).toInt ∧ (gI z_1653 34).toInt ≤ 20 := tz_1653.1 34
                have q_1665 := ((((((((show (gI z_1653 34).toInt = (gI z_1652 34).toInt by rw [ez_1653]; rfl)).trans (show (gI z_1652 34).toInt = (gI z_1651 34).toInt by rw [ez_1652]; rfl)).trans (show (gI z_1651 34).toInt = (gI z_1650 34).toInt by rw [ez_1651]; rfl)).trans (show (gI z_1650 34).toInt = (gI z_1641 34).toInt by rw [ez_1650]; rfl)).trans (o_1646.fi 34 (by decide))).trans (o_1635.fi 34 (by decide))).trans (o_1469.fi 34 (by decide))).trans (o_1428.fi 34 (by decide))
                have tz_1654 : TM z_1654 := by rw [ez_1654]; exact Ty_wI tz_1653 (show 0 ≤ ((gI z_1653 34) + (1 : Int32)).toInt ∧ ((gI z_1653 34) + (1 : Int32)).toInt ≤ 20 from by rw [(a_add rfl (show (1 : Int32).toInt = 1 by decide) (by omega) (by omega))]; omega)
                have oz_1654 : Same [34, 37, 38, 39, 41, 42] [24] z z_1654 := oz_1653.i (by decide) ez_1654
                have f_1666 : 0 ≤ (gI z_1654 38).toInt ∧ (gI z_1654 38).toInt ≤ 300 := tz_1654.1 38
                have q_1667 := (((((show (gI z_1654 38).toInt = (gI z_1653 38).toInt by rw [ez_1654]; rfl)).trans (show (gI z_1653 38).toInt = (gI z_1652 38).toInt by rw [ez_1653]; rfl)).trans (show (gI z_1652 38).toInt = (gI z_1651 38).toInt by rw [ez_1652]; rfl)).trans (show (gI z_1651 38).toInt = (gI z_1650 38).toInt by rw [ez_1651]; rfl)).trans (show (gI z_1650 38).toInt = (gI z_1641 38).toInt by rw [ez_1650]; rfl)
                have f_1668 : 0 ≤ (gI z_1654 42).toInt ∧ (gI z_1654 42).toInt ≤ 1 := tz_1654.1 42
                have q_1669 := (((((show (gI z_1654 42).toInt = (gI z_1653 42).toInt by rw [ez_1654]; rfl)).trans (show (gI z_1653 42).toInt = (gI z_1652 42).toInt by rw [ez_1653]; rfl)).trans (show (gI z_1652 42).toInt = (gI z_1651 42).toInt by rw [ez_1652]; rfl)).trans (show (gI z_1651 42).toInt = (gI z_1650 42).toInt by rw [ez_1651]; rfl)).trans (show (gI z_1650 42).toInt = (gI z_1641 42).toInt by rw [ez_1650]; rfl)
                have f_1670 : 0 ≤ (gI z_1654 34).toInt ∧ (gI z_1654 34).toInt ≤ 20 := tz_1654.1 34
                have q_1671 := (show (gI z_1654 34).toInt = ((gI z_1653 34) + (1 : Int32)).toInt by rw [ez_1654]; rfl)
                have q_1672 : ((gI z_1653 34) + (1 : Int32)).toInt = ((gI z_1653 34).toInt + (1)) := (a_add rfl (show (1 : Int32).toInt = 1 by decide) (by omega) (by omega))
                exact hk z_1654 tz_1654 oz_1654 (by omega)
              · skip
                have i_1673 := i_ne rfl (show (0 : Int32).toInt = 0 by decide) c_1649
                have f_1674 : 0 ≤ (gI z_1641 34).toInt ∧ (gI z_1641 34).toInt ≤ 20 := tz_1641.1 34
                have q_1675 := ((((o_1646.fi 34 (by decide))).trans (o_1635.fi 34 (by decide))).trans (o_1469.fi 34 (by decide))).trans (o_1428.fi 34 (by decide))
                exact hk z_1641 tz_1641 oz_1641 (by omega)
            · skip
              have i_1676 := i_eq rfl (show (2 : Int32).toInt = 2 by decide) c_1454
              refine ⟨fun c_1455 => ?_, fun c_1455 => ?_⟩
              · skip
                refine hK_1639  ?_
                refine hK_1638 ((0 : Int32)) ?_
                have g_1678 : (0 : Int32).toInt = 0 := by decide
                have f_1679 : 0 ≤ (gI z_1448 36).toInt ∧ (gI z_1448 36).toInt ≤ 300 := tz_1448.1 36
                have q_1680 := (((o_1635.fi 36 (by decide))).trans (o_1469.fi 36 (by decide))).trans (o_1428.fi 36 (by decide))
                refine s_X9_must ((0 : Int32)) z_1448 _ tz_1448 (by omega) (fun z_1677 tz_1677 o_1682 hp_1681 => ?_)
                have oz_1677 : Same [34, 37, 38, 39, 41, 42] [24] z z_1677 := oz_1448.tr o_1682 (by decide) (by decide)
                have f_1683 : 0 ≤ (gI z_1677 38).toInt ∧ (gI z_1677 38).toInt ≤ 300 := tz_1677.1 38
                have f_1684 : 0 ≤ (gI z_1677 42).toInt ∧ (gI z_1677 42).toInt ≤ 1 := tz_1677.1 42
                refine hK_1472 y_1449 ((0 : Int32)) z_1677 ?_
                refine ⟨fun c_1685 => ?_, fun c_1685 => ?_⟩
                · skip
                  have i_1691 := i_eq rfl (show (0 : Int32).toInt = 0 by decide) c_1685
                  have f_1692 : 0 ≤ (gI z_1677 34).toInt ∧ (gI z_1677 34).toInt ≤ 20 := tz_1677.1 34
                  have q_1693 := ((((o_1682.fi 34 (by decide))).trans (o_1635.fi 34 (by decide))).trans (o_1469.fi 34 (by decide))).trans (o_1428.fi 34 (by decide))
                  refine ⟨vin (a_mul (show (4 : Int32).toInt = 4 by decide) rfl (by omega) (by omega)) (by omega) (by omega), ?_⟩
                  intro z_1686 ez_1686
                  have tz_1686 : TM z_1686 := by rw [ez_1686]; exact Ty_wR tz_1677 trivial
                  have oz_1686 : Same [34, 37, 38, 39, 41, 42] [24] z z_1686 := oz_1677.r (by decide) ez_1686
                  have f_1694 : 0 ≤ (gI z_1686 34).toInt ∧ (gI z_1686 34).toInt ≤ 20 := tz_1686.1 34
                  have q_1695 := (((((show (gI z_1686 34).toInt = (gI z_1677 34).toInt by rw [ez_1686]; rfl)).trans (o_1682.fi 34 (by decide))).trans (o_1635.fi 34 (by decide))).trans (o_1469.fi 34 (by decide))).trans (o_1428.fi 34 (by decide))
                  refine ⟨vin (a_add (a_mul (show (4 : Int32).toInt = 4 by decide) rfl (by omega) (by omega)) (show (1 : Int32).toInt = 1 by decide) (by omega) (by omega)) (by omega) (by omega), ?_⟩
                  intro z_1687 ez_1687
                  have tz_1687 : TM z_1687 := by rw [ez_1687]; exact Ty_wR tz_1686 trivial
                  have oz_1687 : Same [34, 37, 38, 39, 41, 42] [24] z z_1687 := oz_1686.r (by decide) ez_1687
                  have f_1696 : 0 ≤ (gI z_1687 34).toInt ∧ (gI z_1687 34).toInt ≤ 20 := tz_1687.1 34
                  have q_1697 := ((((((show (gI z_1687 34).toInt = (gI z_1686 34).toInt by rw [ez_1687]; rfl)).trans (show (gI z_1686 34).toInt = (gI z_1677 34).toInt by rw [ez_1686]; rfl)).trans (o_1682.fi 34 (by decide))).trans (o_1635.fi 34 (by decide))).trans (o_1469.fi 34 (by decide))).trans (o_1428.fi 34 (by decide))
                  refine ⟨vin (a_add (a_mul (show (4 : Int32).toInt = 4 by decide) rfl (by omega) (by omega)) (show (2 : Int32).toInt = 2 by decide) (by omega) (by omega)) (by omega) (by omega), ?_⟩
                  intro z_1688 ez_1688
                  have tz_1688 : TM z_1688 := by rw [ez_1688]; exact Ty_wR tz_1687 trivial
                  have oz_1688 : Same [34, 37, 38, 39, 41, 42] [24] z z_1688 := oz_1687.r (by decide) ez_1688
                  have f_1698 : 0 ≤ (gI z_1688 34).toInt ∧ (gI z_1688 34).toInt ≤ 20 := tz_1688.1 34
                  have q_1699 := (((((((show (gI z_1688 34).toInt = (gI z_1687 34).toInt by rw [ez_1688]; rfl)).trans (show (gI z_1687 34).toInt = (gI z_1686 34).toInt by rw [ez_1687]; rfl)).trans (show (gI z_1686 34).toInt = (gI z_1677 34).toInt by rw [ez_1686]; rfl)).trans (o_1682.fi 34 (by decide))).trans (o_1635.fi 34 (by decide))).trans (o_1469.fi 34 (by decide))).trans (o_1428.fi 34 (by decide))
                  refine ⟨vin (a_add (a_mul (show (4 : Int32).toInt = 4 by decide) rfl (by omega) (by omega)) (show (3 : Int32).toInt = 3 by decide) (by omega) (by omega)) (by omega) (by omega), ?_⟩
                  intro z_1689 ez_1689
                  have tz_1689 : TM z_1689 := by rw [ez_1689]; exact Ty_wR tz_1688 trivial
                  have oz_1689 : Same [34, 37, 38, 39, 41, 42] [24] z z_1689 := oz_1688.r (by decide) ez_1689
                  intro z_1690 ez_1690
                  have f_1700 : 0 ≤ (gI z_1689 34).toInt ∧ (gI z_1689 34).toInt ≤ 20 := tz_1689.1 34
                  have q_1701 := ((((((((show (gI z_1689 34).toInt = (gI z_1688 34).toInt by rw [ez_1689]; rfl)).trans (show (gI z_1688 34).toInt = (gI z_1687 34).toInt by rw [ez_1688]; rfl)).trans (show (gI z_1687 34).toInt = (gI z_1686 34).toInt by rw [ez_1687]; rfl)).trans (show (gI z_1686 34).toInt = (gI z_1677 34).toInt by rw [ez_1686]; rfl)).trans (o_1682.fi 34 (by decide))).trans (o_1635.fi 34 (by decide))).trans (o_1469.fi 34 (by decide))).trans (o_1428.fi 34 (by decide))
                  have tz_1690 : TM z_1690 := by rw [ez_1690]; exact Ty_wI tz_1689 (show 0 ≤ ((gI z_1689 34) + (1 : Int32)).toInt ∧ ((gI z_1689 34) + (1 : Int32)).toInt ≤ 20 from by rw [(a_add rfl (show (1 : Int32).toInt = 1 by decide) (by omega) (by omega))]; omega)
                  have oz_1690 : Same [34, 37, 38, 39, 41, 42] [24] z z_1690 := oz_1689.i (by decide) ez_1690
                  have f_1702 : 0 ≤ (gI z_1690 38).toInt ∧ (gI z_1690 38).toInt ≤ 300 := tz_1690.1 38
                  have q_1703 := (((((show (gI z_1690 38).toInt = (gI z_1689 38).toInt by rw [ez_1690]; rfl)).trans (show (gI z_1689 38).toInt = (gI z_1688 38).toInt by rw [ez_1689]; rfl)).trans (show (gI z_1688 38).toInt = (gI z_1687 38).toInt by rw [ez_1688]; rfl)).trans (show (gI z_1687 38).toInt = (gI z_1686 38).toInt by rw [ez_1687]; rfl)).trans (show (gI z_1686 38).toInt = (gI z_1677 38).toInt by rw [ez_1686]; rfl)
                  have f_1704 : 0 ≤ (gI z_1690 42).toInt ∧ (gI z_1690 42).toInt ≤ 1 := tz_1690.1 42
                  have q_1705 := (((((show (gI z_1690 42).toInt = (gI z_1689 42).toInt by rw [ez_1690]; rfl)).trans (show (gI z_1689 42).toInt = (gI z_1688 42).toInt by rw [ez_1689]; rfl)).trans (show (gI z_1688 42).toInt = (gI z_1687 42).toInt by rw [ez_1688]; rfl)).trans (show (gI z_1687 42).toInt = (gI z_1686 42).toInt by rw [ez_1687]; rfl)).trans (show (gI z_1686 42).toInt = (gI z_1677 42).toInt by rw [ez_1686]; rfl)
                  have f_1706 : 0 ≤ (gI z_1690 34).toInt ∧ (gI z_1690 34).toInt ≤ 20 := tz_1690.1 34
                  have q_1707 := (show (gI z_1690 34).toInt = ((gI z_1689 34) + (1 : Int32)).toInt by rw [ez_1690]; rfl)
                  have q_1708 : ((gI z_1689 34) + (1 : Int32)).toInt = ((gI z_1689 34).toInt + (1)) := (a_add rfl (show (1 : Int32).toInt = 1 by decide) (by omega) (by omega))
                  exact hk z_1690 tz_1690 oz_1690 (by omega)
                · skip
                  have i_1709 := i_ne rfl (show (0 : Int32).toInt = 0 by decide) c_1685
                  have f_1710 : 0 ≤ (gI z_1677 34).toInt ∧ (gI z_1677 34).toInt ≤ 20 := tz_1677.1 34
                  have q_1711 := ((((o_1682.fi 34 (by decide))).trans (o_1635.fi 34 (by decide))).trans (o_1469.fi 34 (by decide))).trans (o_1428.fi 34 (by decide))
                  exact hk z_1677 tz_1677 oz_1677 (by omega)
              · skip
                refine ⟨fun c_1456 => ?_, fun c_1456 => ?_⟩
                · skip
                  refine hK_1639  ?_
                  refine hK_1638 ((0 : Int32)) ?_
                  have g_1713 : (0 : Int32).toInt = 0 := by decide
                  have f_1714 : 0 ≤ (gI z_1448 36).toInt ∧ (gI z_1448 36).toInt ≤ 300 := tz_1448.1 36
                  have q_1715 := (((o_1635.fi 36 (by decide))).trans (o_1469.fi 36 (by decide))).trans (o_1428.fi 36 (by decide))
                  refine s_X9_must ((0 : Int32)) z_1448 _ tz_1448 (by omega) (fun z_1712 tz_1712 o_1717 hp_1716 => ?_)
                  have oz_1712 : Same [34, 37, 38, 39, 41, 42] [24] z z_1712 := oz_1448.tr o_1717 (by decide) (by decide)
                  have f_1718 : 0 ≤ (gI z_1712 38).toInt ∧ (gI z_1712 38).toInt ≤ 300 := tz_1712.1 38
                  have f_1719 : 0 ≤ (gI z_1712 42).toInt ∧ (gI z_1712 42).toInt ≤ 1 := tz_1712.1 42
                  refine hK_1472 y_1449 ((0 : Int32)) z_1712 ?_
                  refine ⟨fun c_1720 => ?_, fun c_1720 => ?_⟩
                  · skip
                    have i_1726 := i_eq rfl (show (0 : Int32).toInt = 0 by decide) c_1720
                    have f_1727 : 0 ≤ (gI z_1712 34).toInt ∧ (gI z_1712 34).toInt ≤ 20 := tz_1712.1 34
                    have q_1728 := ((((o_1717.fi 34 (by decide))).trans (o_1635.fi 34 (by decide))).trans (o_1469.fi 34 (by decide))).trans (o_1428.fi 34 (by decide))
                    refine ⟨vin (a_mul (show (4 : Int32).toInt = 4 by decide) rfl (by omega) (by omega)) (by omega) (by omega), ?_⟩
                    intro z_1721 ez_1721
                    have tz_1721 : TM z_1721 := by rw [ez_1721]; exact Ty_wR tz_1712 trivial
                    have oz_1721 : Same [34, 37, 38, 39, 41, 42] [24] z z_1721 := oz_1712.r (by decide) ez_1721
                    have f_1729 : 0 ≤ (gI z_1721 34).toInt ∧ (gI z_1721 34).toInt ≤ 20 := tz_1721.1 34
                    have q_1730 := (((((show (gI z_1721 34).toInt = (gI z_1712 34).toInt by rw [ez_1721]; rfl)).trans (o_1717.fi 34 (by decide))).trans (o_1635.fi 34 (by decide))).trans (o_1469.fi 34 (by decide))).trans (o_1428.fi 34 (by decide))
                    refine ⟨vin (a_add (a_mul (show (4 : Int32).toInt = 4 by decide) rfl (by omega) (by omega)) (show (1 : Int32).toInt = 1 by decide) (by omega) (by omega)) (by omega) (by omega), ?_⟩
                    intro z_1722 ez_1722
                    have tz_1722 : TM z_1722 := by rw [ez_1722]; exact Ty_wR tz_1721 trivial
                    have oz_1722 : Same [34, 37, 38, 39, 41, 42] [24] z z_1722 := oz_1721.r (by decide) ez_1722
                    have f_1731 : 0 ≤ (gI z_1722 34).toInt ∧ (gI z_1722 34).toInt ≤ 20 := tz_1722.1 34
                    have q_1732 := ((((((show (gI z_1722 34).toInt = (gI z_1721 34).toInt by rw [ez_1722]; rfl)).trans (show (gI z_1721 34).toInt = (gI z_1712 34).toInt by rw [ez_1721]; rfl)).trans (o_1717.fi 34 (by decide))).trans (o_1635.fi 34 (by decide))).trans (o_1469.fi 34 (by decide))).trans (o_1428.fi 34 (by decide))
                    refine ⟨vin (a_add (a_mul (show (4 : Int32).toInt = 4 by decide) rfl (by omega) (by omega)) (show (2 : Int32).toInt = 2 by decide) (by omega) (by omega)) (by omega) (by omega), ?_⟩
                    intro z_1723 ez_1723
                    have tz_1723 : TM z_1723 := by rw [ez_1723]; exact Ty_wR tz_1722 trivial
                    have oz_1723 : Same [34, 37, 38, 39, 41, 42] [24] z z_1723 := oz_1722.r (by decide) ez_1723
                    have f_1733 : 0 ≤ (gI z_1723 34).toInt ∧ (gI z_1723 34).toInt ≤ 20 := tz_1723.1 34
                    have q_1734 := (((((((show (gI z_1723 34).toInt = (gI z_1722 34).toInt by rw [ez_1723]; rfl)).trans (show (gI z_1722 34).toInt = (gI z_1721 34).toInt by rw [ez_1722]; rfl)).trans (show (gI z_1721 34).toInt = (gI z_1712 34).toInt by rw [ez_1721]; rfl)).trans (o_1717.fi 34 (by decide))).trans (o_1635.fi 34 (by decide))).trans (o_1469.fi 34 (by decide))).trans (o_1428.fi 34 (by decide))
                    refine ⟨vin (a_add (a_mul (show (4 : Int32).toInt = 4 by decide) rfl (by omega) (by omega)) (show (3 : Int32).toInt = 3 by decide) (by omega) (by omega)) (by omega) (by omega), ?_⟩
                    intro z_1724 ez_1724
                    have tz_1724 : TM z_1724 := by rw [ez_1724]; exact Ty_wR tz_1723 trivial
                    have oz_1724 : Same [34, 37, 38, 39, 41, 42] [24] z z_1724 := oz_1723.r (by decide) ez_1724
                    intro z_1725 ez_1725
                    have f_1735 : 0 ≤ (gI z_1724 34).toInt ∧ (gI z_1724 34).toInt ≤ 20 := tz_1724.1 34
                    have q_1736 := ((((((((show (gI z_1724 34).toInt = (gI z_1723 34).toInt by rw [ez_1724]; rfl)).trans (show (gI z_1723 34).toInt = (gI z_1722 34).toInt by rw [ez_1723]; rfl)).trans (show (gI z_1722 34).toInt = (gI z_1721 34).toInt by rw [ez_1722]; rfl)).trans (show (gI z_1721 34).toInt = (gI z_1712 34).toInt by rw [ez_1721]; rfl)).trans (o_1717.fi 34 (by decide))).trans (o_1635.fi 34 (by decide))).trans (o_1469.fi 34 (by decide))).trans (o_1428.fi 34 (by decide))
                    have tz_1725 : TM z_1725 := by rw [ez_1725]; exact Ty_wI tz_1724 (show 0 ≤ ((gI z_1724 34) + (1 : Int32)).toInt ∧ ((gI z_1724 34) + (1 : Int32)).toInt ≤ 20 from by rw [(a_add rfl (show (1 : Int32).toInt = 1 by decide) (by omega) (by omega))]; omega)
                    have oz_1725 : Same [34, 37, 38, 39, 41, 42] [24] z z_1725 := oz_1724.i (by decide) ez_1725
                    have f_1737 : 0 ≤ (gI z_1725 38).toInt ∧ (gI z_1725 38).toInt ≤ 300 := tz_1725.1 38
                    have q_1738 := (((((show (gI z_1725 38).toInt = (gI z_1724 38).toInt by rw [ez_1725]; rfl)).trans (show (gI z_1724 38).toInt = (gI z_1723 38).toInt by rw [ez_1724]; rfl)).trans (show (gI z_1723 38).toInt = (gI z_1722 38).toInt by rw [ez_1723]; rfl)).trans (show (gI z_1722 38).toInt = (gI z_1721 38).toInt by rw [ez_1722]; rfl)).trans (show (gI z_1721 38).toInt = (gI z_1712 38).toInt by rw [ez_1721]; rfl)
                    have f_1739 : 0 ≤ (gI z_1725 42).toInt ∧ (gI z_1725 42).toInt ≤ 1 := tz_1725.1 42
                    have q_1740 := (((((show (gI z_1725 42).toInt = (gI z_1724 42).toInt by rw [ez_1725]; rfl)).trans (show (gI z_1724 42).toInt = (gI z_1723 42).toInt by rw [ez_1724]; rfl)).trans (show (gI z_1723 42).toInt = (gI z_1722 42).toInt by rw [ez_1723]; rfl)).trans (show (gI z_1722 42).toInt = (gI z_1721 42).toInt by rw [ez_1722]; rfl)).trans (show (gI z_1721 42).toInt = (gI z_1712 42).toInt by rw [ez_1721]; rfl)
                    have f_1741 : 0 ≤ (gI z_1725 34).toInt ∧ (gI z_1725 34).toInt ≤ 20 := tz_1725.1 34
                    have q_1742 := (show (gI z_1725 34).toInt = ((gI z_1724 34) + (1 : Int32)).toInt by rw [ez_1725]; rfl)
                    have q_1743 : ((gI z_1724 34) + (1 : Int32)).toInt = ((gI z_1724 34).toInt + (1)) := (a_add rfl (show (1 : Int32).toInt = 1 by decide) (by omega) (by omega))
                    exact hk z_1725 tz_1725 oz_1725 (by omega)
                  · skip
                    have i_1744 := i_ne rfl (show (0 : Int32).toInt = 0 by decide) c_1720
                    have f_1745 : 0 ≤ (gI z_1712 34).toInt ∧ (gI z_1712 34).toInt ≤ 20 := tz_1712.1 34
                    have q_1746 := ((((o_1717.fi 34 (by decide))).trans (o_1635.fi 34 (by decide))).trans (o_1469.fi 34 (by decide))).trans (o_1428.fi 34 (by decide))
                    exact hk z_1712 tz_1712 oz_1712 (by omega)
                · skip
                  refine hK_1638 ((1 : Int32)) ?_
                  have g_1748 : (1 : Int32).toInt = 1 := by decide
                  have f_1749 : 0 ≤ (gI z_1448 36).toInt ∧ (gI z_1448 36).toInt ≤ 300 := tz_1448.1 36
                  have q_1750 := (((o_1635.fi 36 (by decide))).trans (o_1469.fi 36 (by decide))).trans (o_1428.fi 36 (by decide))
                  refine s_X9_must ((1 : Int32)) z_1448 _ tz_1448 (by omega) (fun z_1747 tz_1747 o_1752 hp_1751 => ?_)
                  have oz_1747 : Same [34, 37, 38, 39, 41, 42] [24] z z_1747 := oz_1448.tr o_1752 (by decide) (by decide)
                  have f_1753 : 0 ≤ (gI z_1747 38).toInt ∧ (gI z_1747 38).toInt ≤ 300 := tz_1747.1 38
                  have f_1754 : 0 ≤ (gI z_1747 42).toInt ∧ (gI z_1747 42).toInt ≤ 1 := tz_1747.1 42
                  refine hK_1472 y_1449 ((0 : Int32)) z_1747 ?_
                  refine ⟨fun c_1755 => ?_, fun c_1755 => ?_⟩
                  · skip
                    have i_1761 := i_eq rfl (show (0 : Int32).toInt = 0 by decide) c_1755
                    have f_1762 : 0 ≤ (gI z_1747 34).toInt ∧ (gI z_1747 34).toInt ≤ 20 := tz_1747.1 34
                    have q_1763 := ((((o_1752.fi 34 (by decide))).trans (o_1635.fi 34 (by decide))).trans (o_1469.fi 34 (by decide))).trans (o_1428.fi 34 (by decide))
                    refine ⟨vin (a_mul (show (4 : Int32).toInt = 4 by decide) rfl (by omega) (by omega)) (by omega) (by omega), ?_⟩
                    intro z_1756 ez_1756
                    have tz_1756 : TM z_1756 := by rw [ez_1756]; exact Ty_wR tz_1747 trivial
                    have oz_1756 : Same [34, 37, 38, 39, 41, 42] [24] z z_1756 := oz_1747.r (by decide) ez_1756
                    have f_1764 : 0 ≤ (gI z_1756 34).toInt ∧ (gI z_1756 34).toInt ≤ 20 := tz_1756.1 34
                    have q_1765 := (((((show (gI z_1756 34).toInt = (gI z_1747 34).toInt by rw [ez_1756]; rfl)).trans (o_1752.fi 34 (by decide))).trans (o_1635.fi 34 (by decide))).trans (o_1469.fi 34 (by decide))).trans (o_1428.fi 34 (by decide))
                    refine ⟨vin (a_add (a_mul (show (4 : Int32).toInt = 4 by decide) rfl (by omega) (by omega)) (show (1 : Int32).toInt = 1 by decide) (by omega) (by omega)) (by omega) (by omega), ?_⟩
                    intro z_1757 ez_1757
                    have tz_1757 : TM z_1757 := by rw [ez_1757]; exact Ty_wR tz_1756 trivial
                    have oz_1757 : Same [34, 37, 38, 39, 41, 42] [24] z z_1757 := oz_1756.r (by decide) ez_1757
                    have f_1766 : 0 ≤ (gI z_1757 34).toInt ∧ (gI z_1757 34).toInt ≤ 20 := tz_1757.1 34
                    have q_1767 := ((((((show (gI z_1757 34).toInt = (gI z_1756 34).toInt by rw [ez_1757]; rfl)).trans (show (gI z_1756 34).toInt = (gI z_1747 34).toInt by rw [ez_1756]; rfl)).trans (o_1752.fi 34 (by decide))).trans (o_1635.fi 34 (by decide))).trans (o_1469.fi 34 (by decide))).trans (o_1428.fi 34 (by decide))
                    refine ⟨vin (a_add (a_mul (show (4 : Int32).toInt = 4 by decide) rfl (by omega) (by omega)) (show (2 : Int32).toInt = 2 by decide) (by omega) (by omega)) (by omega) (by omega), ?_⟩
                    intro z_1758 ez_1758
                    have tz_1758 : TM z_1758 := by rw [ez_1758]; exact Ty_wR tz_1757 trivial
                    have oz_1758 : Same [34, 37, 38, 39, 41, 42] [24] z z_1758 := oz_1757.r (by decide) ez_1758
                    have f_1768 : 0 ≤ (gI z_1758 34).toInt ∧ (gI z_1758 34).toInt ≤ 20 := tz_1758.1 34
                    have q_1769 := (((((((show (gI z_1758 34).toInt = (gI z_1757 34).toInt by rw [ez_1758]; rfl)).trans (show (gI z_1757 34).toInt = (gI z_1756 34).toInt by rw [ez_1757]; rfl)).trans (show (gI z_1756 34).toInt = (gI z_1747 34).toInt by rw [ez_1756]; rfl)).trans (o_1752.fi 34 (by decide))).trans (o_1635.fi 34 (by decide))).trans (o_1469.fi 34 (by decide))).trans (o_1428.fi 34 (by decide))
                    refine ⟨vin (a_add (a_mul (show (4 : Int32).toInt = 4 by decide) rfl (by omega) (by omega)) (show (3 : Int32).toInt = 3 by decide) (by omega) (by omega)) (by omega) (by omega), ?_⟩
                    intro z_1759 ez_1759
                    have tz_1759 : TM z_1759 := by rw [ez_1759]; exact Ty_wR tz_1758 trivial
                    have oz_1759 : Same [34, 37, 38, 39, 41, 42] [24] z z_1759 := oz_1758.r (by decide) ez_1759
                    intro z_1760 ez_1760
                    have f_1770 : 0 ≤ (gI z_1759 34).toInt ∧ (gI z_1759 34).toInt ≤ 20 := tz_1759.1 34
                    have q_1771 := ((((((((show (gI z_1759 34).toInt = (gI z_1758 34).toInt by rw [ez_1759]; rfl)).trans (show (gI z_1758 34).toInt = (gI z_1757 34).toInt by rw [ez_1758]; rfl)).trans (show (gI z_1757 34).toInt = (gI z_1756 34).toInt by rw [ez_1757]; rfl)).trans (show (gI z_1756 34).toInt = (gI z_1747 34).toInt by rw [ez_1756]; rfl)).trans (o_1752.fi 34 (by decide))).trans (o_1635.fi 34 (by decide))).trans (o_1469.fi 34 (by decide))).trans (o_1428.fi 34 (by decide))
                    have tz_1760 : TM z_1760 := by rw [ez_1760]; exact Ty_wI tz_1759 (show 0 ≤ ((gI z_1759 34) + (1 : Int32)).toInt ∧ ((gI z_1759 34) + (1 : Int32)).toInt ≤ 20 from by rw [(a_add rfl (show (1 : Int32).toInt = 1 by decide) (by omega) (by omega))]; omega)
                    have oz_1760 : Same [34, 37, 38, 39, 41, 42] [24] z z_1760 := oz_1759.i (by decide) ez_1760
                    have f_1772 : 0 ≤ (gI z_1760 38).toInt ∧ (gI z_1760 38).toInt ≤ 300 := tz_1760.1 38
                    have q_1773 := (((((show (gI z_1760 38).toInt = (gI z_1759 38).toInt by rw [ez_1760]; rfl)).trans (show (gI z_1759 38).toInt = (gI z_1758 38).toInt by rw [ez_1759]; rfl)).trans (show (gI z_1758 38).toInt = (gI z_1757 38).toInt by rw [ez_1758]; rfl)).trans (show (gI z_1757 38).toInt = (gI z_1756 38).toInt by rw [ez_1757]; rfl)).trans (show (gI z_1756 38).toInt = (gI z_1747 38).toInt by rw [ez_1756]; rfl)
                    have f_1774 : 0 ≤ (gI z_1760 42).toInt ∧ (gI z_1760 42).toInt ≤ 1 := tz_1760.1 42
                    have q_1775 := (((((show (gI z_1760 42).toInt = (gI z_1759 42).toInt by rw [ez_1760]; rfl)).trans (show (gI z_1759 42).toInt = (gI z_1758 42).toInt by rw [ez_1759]; rfl)).trans (show (gI z_1758 42).toInt = (gI z_1757 42).toInt by rw [ez_1758]; rfl)).trans (show (gI z_1757 42).toInt = (gI z_1756 42).toInt by rw [ez_1757]; rfl)).trans (show (gI z_1756 42).toInt = (gI z_1747 42).toInt by rw [ez_1756]; rfl)
                    have f_1776 : 0 ≤ (gI z_1760 34).toInt ∧ (gI z_1760 34).toInt ≤ 20 := tz_1760.1 34
                    have q_1777 := (show (gI z_1760 34).toInt = ((gI z_1759 34) + (1 : Int32)).toInt by rw [ez_1760]; rfl)
                    have q_1778 : ((gI z_1759 34) + (1 : Int32)).toInt = ((gI z_1759 34).toInt + (1)) := (a_add rfl (show (1 : Int32).toInt = 1 by decide) (by omega) (by omega))
                    exact hk z_1760 tz_1760 oz_1760 (by omega)
                  · skip
                    have i_1779 := i_ne rfl (show (0 : Int32).toInt = 0 by decide) c_1755
                    have f_1780 : 0 ≤ (gI z_1747 34).toInt ∧ (gI z_1747 34).toInt ≤ 20 := tz_1747.1 34
                    have q_1781 := ((((o_1752.fi 34 (by decide))).trans (o_1635.fi 34 (by decide))).trans (o_1469.fi 34 (by decide))).trans (o_1428.fi 34 (by decide))
                    exact hk z_1747 tz_1747 oz_1747 (by omega)
      · subst er60
        refine ⟨fun _ => ?_, fun hc => absurd (show ((0 : Int32)) = ((0 : Int32)) by decide) hc⟩
        refine hK_655 ((-1 : Int32)) ?_
        intro K_1782 hK_1824
        intro K_1821 hK_1825
        refine ⟨fun _ => ?_, fun hc => absurd (show ((-1 : Int32)) < ((0 : Int32)) by decide) hc⟩
        refine hK_1825  ?_
        refine hK_1824 ((0 : Int32)) ?_
        have g_1863 : (0 : Int32).toInt = 0 := by decide
        have f_1864 : 0 ≤ (gI z 38).toInt ∧ (gI z 38).toInt ≤ 300 := ht.1 38
        have f_1865 : 0 ≤ (gI z 36).toInt ∧ (gI z 36).toInt ≤ 300 := ht.1 36
        refine s_X9_must ((0 : Int32)) z _ ht (by omega) (fun z_1826 tz_1826 o_1867 hp_1866 => ?_)
        have oz_1826 : Same [34, 37, 38, 39, 41, 42] [24] z z_1826 := (Same.rf (z := z)).tr o_1867 (by decide) (by decide)
        have f_1868 : 0 ≤ (gI z_1826 38).toInt ∧ (gI z_1826 38).toInt ≤ 300 := tz_1826.1 38
        have f_1869 : 0 ≤ (gI z_1826 42).toInt ∧ (gI z_1826 42).toInt ≤ 1 := tz_1826.1 42
        have f_1870 : 0 ≤ (gI z 42).toInt ∧ (gI z 42).toInt ≤ 1 := ht.1 42
        intro K_1827 hK_1871
        refine ⟨fun _ => ?_, fun hc => absurd hc (by decide)⟩
        refine ⟨fun _ => ?_, fun hc => absurd hc (by decide)⟩
        refine hK_1871 ((15 : Int64)) ?_
        have g_1904 : (15 : Int64).toInt = 15 := by decide
        have f_1905 : 0 ≤ (gI z_1826 36).toInt ∧ (gI z_1826 36).toInt ≤ 300 := tz_1826.1 36
        have q_1906 := (o_1867.fi 36 (by decide))
        refine s_X9_number ((15 : Int64)) z_1826 _ tz_1826 (by omega) (fun r_1872 z_1873 tz_1873 o_1908 hp_1907 => ?_)
        have oz_1873 : Same [34, 37, 38, 39, 41, 42] [24] z z_1873 := oz_1826.tr o_1908 (by decide) (by decide)
        have f_1909 : 0 ≤ (gI z_1873 38).toInt ∧ (gI z_1873 38).toInt ≤ 300 := tz_1873.1 38
        have f_1910 : 0 ≤ (gI z_1873 42).toInt ∧ (gI z_1873 42).toInt ≤ 1 := tz_1873.1 42
        intro K_1874 hK_1911
        refine ⟨fun _ => ?_, fun hc => absurd hc (by decide)⟩
        refine ⟨fun _ => ?_, fun hc => absurd hc (by decide)⟩
        refine hK_1911 ((0 : Int32)) ((0 : Int32)) z_1873 ?_
        refine ⟨fun c_1912 => ?_, fun c_1912 => ?_⟩
        · skip
          have i_1918 := i_eq rfl (show (0 : Int32).toInt = 0 by decide) c_1912
          have f_1919 : 0 ≤ (gI z_1873 34).toInt ∧ (gI z_1873 34).toInt ≤ 20 := tz_1873.1 34
          have q_1920 := ((o_1908.fi 34 (by decide))).trans (o_1867.fi 34 (by decide))
          have f_1921 : 0 ≤ (gI z 34).toInt ∧ (gI z 34).toInt ≤ 20 := ht.1 34
          refine ⟨vin (a_mul (show (4 : Int32).toInt = 4 by decide) rfl (by omega) (by omega)) (by omega) (by omega), ?_⟩
          intro z_1913 ez_1913
          have tz_1913 : TM z_1913 := by rw [ez_1913]; exact Ty_wR tz_1873 trivial
          have oz_1913 : Same [34, 37, 38, 39, 41, 42] [24] z z_1913 := oz_1873.r (by decide) ez_1913
          have f_1922 : 0 ≤ (gI z_1913 34).toInt ∧ (gI z_1913 34).toInt ≤ 20 := tz_1913.1 34
          have q_1923 := (((show (gI z_1913 34).toInt = (gI z_1873 34).toInt by rw [ez_1913]; rfl)).trans (o_1908.fi 34 (by decide))).trans (o_1867.fi 34 (by decide))
          refine ⟨vin (a_add (a_mul (show (4 : Int32).toInt = 4 by decide) rfl (by omega) (by omega)) (show (1 : Int32).toInt = 1 by decide) (by omega) (by omega)) (by omega) (by omega), ?_⟩
          intro z_1914 ez_1914
          have tz_1914 : TM z_1914 := by rw [ez_1914]; exact Ty_wR tz_1913 trivial
          have oz_1914 : Same [34, 37, 38, 39, 41, 42] [24] z z_1914 := oz_1913.r (by decide) ez_1914
          have f_1924 : 0 ≤ (gI z_1914 34).toInt ∧ (gI z_1914 34).toInt ≤ 20 := tz_1914.1 34
          have q_1925 := ((((show (gI z_1914 34).toInt = (gI z_1913 34).toInt by rw [ez_1914]; rfl)).trans (show (gI z_1913 34).toInt = (gI z_1873 34).toInt by rw [ez_1913]; rfl)).trans (o_1908.fi 34 (by decide))).trans (o_1867.fi 34 (by decide))
          refine ⟨vin (a_add (a_mul (show (4 : Int32).toInt = 4 by decide) rfl (by omega) (by omega)) (show (2 : Int32).toInt = 2 by decide) (by omega) (by omega)) (by omega) (by omega), ?_⟩
          intro z_1915 ez_1915
          have tz_1915 : TM z_1915 := by rw [ez_1915]; exact Ty_wR tz_1914 trivial
          have oz_1915 : Same [34, 37, 38, 39, 41, 42] [24] z z_1915 := oz_1914.r (by decide) ez_1915
          have f_1926 : 0 ≤ (gI z_1915 34).toInt ∧ (gI z_1915 34).toInt ≤ 20 := tz_1915.1 34
          have q_1927 := (((((show (gI z_1915 34).toInt = (gI z_1914 34).toInt by rw [ez_1915]; rfl)).trans (show (gI z_1914 34).toInt = (gI z_1913 34).toInt by rw [ez_1914]; rfl)).trans (show (gI z_1913 34).toInt = (gI z_1873 34).toInt by rw [ez_1913]; rfl)).trans (o_1908.fi 34 (by decide))).trans (o_1867.fi 34 (by decide))
          refine ⟨vin (a_add (a_mul (show (4 : Int32).toInt = 4 by decide) rfl (by omega) (by omega)) (show (3 : Int32).toInt = 3 by decide) (by omega) (by omega)) (by omega) (by omega), ?_⟩
          intro z_1916 ez_1916
          have tz_1916 : TM z_1916 := by rw [ez_1916]; exact Ty_wR tz_1915 trivial
          have oz_1916 : Same [34, 37, 38, 39, 41, 42] [24] z z_1916 := oz_1915.r (by decide) ez_1916
          intro z_1917 ez_1917
          have f_1928 : 0 ≤ (gI z_1916 34).toInt ∧ (gI z_1916 34).toInt ≤ 20 := tz_1916.1 34
          have q_1929 := ((((((show (gI z_1916 34).toInt = (gI z_1915 34).toInt by rw [ez_1916]; rfl)).trans (show (gI z_1915 34).toInt = (gI z_1914 34).toInt by rw [ez_1915]; rfl)).trans (show (gI z_1914 34).toInt = (gI z_1913 34).toInt by rw [ez_1914]; rfl)).trans (show (gI z_1913 34).toInt = (gI z_1873 34).toInt by rw [ez_1913]; rfl)).trans (o_1908.fi 34 (by decide))).trans (o_1867.fi 34 (by decide))
          have tz_1917 : TM z_1917 := by rw [ez_1917]; exact Ty_wI tz_1916 (show 0 ≤ ((gI z_1916 34) + (1 : Int32)).toInt ∧ ((gI z_1916 34) + (1 : Int32)).toInt ≤ 20 from by rw [(a_add rfl (show (1 : Int32).toInt = 1 by decide) (by omega) (by omega))]; omega)
          have oz_1917 : Same [34, 37, 38, 39, 41, 42] [24] z z_1917 := oz_1916.i (by decide) ez_1917
          have f_1930 : 0 ≤ (gI z_1917 38).toInt ∧ (gI z_1917 38).toInt ≤ 300 := tz_1917.1 38
          have q_1931 := (((((show (gI z_1917 38).toInt = (gI z_1916 38).toInt by rw [ez_1917]; rfl)).trans (show (gI z_1916 38).toInt = (gI z_1915 38).toInt by rw [ez_1916]; rfl)).trans (show (gI z_1915 38).toInt = (gI z_1914 38).toInt by rw [ez_1915]; rfl)).trans (show (gI z_1914 38).toInt = (gI z_1913 38).toInt by rw [ez_1914]; rfl)).trans (show (gI z_1913 38).toInt = (gI z_1873 38).toInt by rw [ez_1913]; rfl)
          have f_1932 : 0 ≤ (gI z_1917 42).toInt ∧ (gI z_1917 42).toInt ≤ 1 := tz_1917.1 42
          have q_1933 := (((((show (gI z_1917 42).toInt = (gI z_1916 42).toInt by rw [ez_1917]; rfl)).trans (show (gI z_1916 42).toInt = (gI z_1915 42).toInt by rw [ez_1916]; rfl)).trans (show (gI z_1915 42).toInt = (gI z_1914 42).toInt by rw [ez_1915]; rfl)).trans (show (gI z_1914 42).toInt = (gI z_1913 42).toInt by rw [ez_1914]; rfl)).trans (show (gI z_1913 42).toInt = (gI z_1873 42).toInt by rw [ez_1913]; rfl)
          have f_1934 : 0 ≤ (gI z_1917 34).toInt ∧ (gI z_1917 34).toInt ≤ 20 := tz_1917.1 34
          have q_1935 := (show (gI z_1917 34).toInt = ((gI z_1916 34) + (1 : Int32)).toInt by rw [ez_1917]; rfl)
          have q_1936 : ((gI z_1916 34) + (1 : Int32)).toInt = ((gI z_1916 34).toInt + (1)) := (a_add rfl (show (1 : Int32).toInt = 1 by decide) (by omega) (by omega))
          exact hk z_1917 tz_1917 oz_1917 (by omega)
        · skip
          have i_1937 := i_ne rfl (show (0 : Int32).toInt = 0 by decide) c_1912
          have f_1938 : 0 ≤ (gI z_1873 34).toInt ∧ (gI z_1873 34).toInt ≤ 20 := tz_1873.1 34
          have q_1939 := ((o_1908.fi 34 (by decide))).trans (o_1867.fi 34 (by decide))
          have f_1940 : 0 ≤ (gI z 34).toInt ∧ (gI z 34).toInt ≤ 20 := ht.1 34
          exact hk z_1873 tz_1873 oz_1873 (by omega)

