set_option maxHeartbeats 2000000 in
theorem s2_X9_job (b1 : Int32) (b2 : Int32) (b3 : Int32) (b4 : Int32) (b5 : Int32) (b6 : Int32) (b7 : Int32) (b8 : Int32) (z : St) (P : Int32 → St → Prop) (ht : TM z) (hrx : RM z)  (hk : ∀ (r : Int32) (z2 : St), TM z2 → Same [0, 1, 12] [6, 7, 8, 9, 10, 11, 12] z z2 → RM z2 → (True) → P r z2) : wp_X9_job b1 b2 b3 b4 b5 b6 b7 b8 z P := by
  unfold wp_X9_job
  intro z1 ez1
  have tz1 : TM z1 := by rw [ez1]; exact Ty_wI ht trivial
  have oz1 : Same [0, 1, 12] [6, 7, 8, 9, 10, 11, 12] z z1 := (Same.rf (z := z)).i (by decide) ez1
  have xz1 : RM z1 := by rw [ez1]; exact hrx
  refine s_X9_isHour b2 z1 _ tz1  (fun r3 hp_1 => ?_)
  rcases hp_1 with ⟨er3, hp_1⟩ | ⟨er3, hp_1⟩
  · subst er3
    intro K5 hK_2
    intro K49 hK_3
    refine ⟨fun hc => absurd hc (by decide), fun _ => ?_⟩
    refine s_X9_isHour b3 z1 _ tz1  (fun r52 hp_4 => ?_)
    rcases hp_4 with ⟨er52, hp_4⟩ | ⟨er52, hp_4⟩
    · subst er52
      refine ⟨fun hc => absurd hc (by decide), fun _ => ?_⟩
      refine ⟨fun c54 => ?_, fun c54 => ?_⟩
      · skip
        have i_5 := i_lt rfl rfl c54
        refine hK_3  ?_
        refine hK_2 ((0 : Int32)) ?_
        intro K_6 hK_45
        intro K_31 hK_46
        refine ⟨fun _ => ?_, fun hc => absurd (show ((0 : Int32)) = ((0 : Int32)) by decide) hc⟩
        refine hK_46  ?_
        refine hK_45 ((0 : Int32)) ?_
        refine ⟨fun hc => absurd hc (by decide), fun _ => ?_⟩
        have g_70 : (-1 : Int32).toInt = -1 := by decide
        refine s_X9_told ((-1 : Int32)) z1 _ tz1  (fun r_68 z_69 tz_69 o_72 hp_71 => ?_)
        have oz_69 : Same [0, 1, 12] [6, 7, 8, 9, 10, 11, 12] z z_69 := oz1.tr o_72 (by decide) (by decide)
        have xz_69 : RM z_69 := RM_same xz1 o_72 (by decide) (by decide)
        exact hk r_68 z_69 tz_69 oz_69 xz_69 trivial
      · skip
        have i_73 := i_nlt rfl rfl c54
        refine ⟨fun c55 => ?_, fun c55 => ?_⟩
        · skip
          have i_74 := i_lt (show (23 : Int32).toInt = 23 by decide) (a_sub rfl rfl (by omega) (by omega)) c55
          refine hK_3  ?_
          refine hK_2 ((0 : Int32)) ?_
          intro K_75 hK_114
          intro K_100 hK_115
          refine ⟨fun _ => ?_, fun hc => absurd (show ((0 : Int32)) = ((0 : Int32)) by decide) hc⟩
          refine hK_115  ?_
          refine hK_114 ((0 : Int32)) ?_
          refine ⟨fun hc => absurd hc (by decide), fun _ => ?_⟩
          have g_139 : (-1 : Int32).toInt = -1 := by decide
          refine s_X9_told ((-1 : Int32)) z1 _ tz1  (fun r_137 z_138 tz_138 o_141 hp_140 => ?_)
          have oz_138 : Same [0, 1, 12] [6, 7, 8, 9, 10, 11, 12] z z_138 := oz1.tr o_141 (by decide) (by decide)
          have xz_138 : RM z_138 := RM_same xz1 o_141 (by decide) (by decide)
          exact hk r_137 z_138 tz_138 oz_138 xz_138 trivial
        · skip
          have i_142 := i_nlt (show (23 : Int32).toInt = 23 by decide) (a_sub rfl rfl (by omega) (by omega)) c55
          have g_143 : (Int32.toInt64 b4).toInt = b4.toInt := (a_wide rfl)
          have g_144 : (1 : Int64).toInt = 1 := by decide
          have g_145 : (4 : Int64).toInt = 4 := by decide
          refine s_X9_in (Int32.toInt64 b4) ((1 : Int64)) ((4 : Int64)) z1 _ tz1  (fun r57 hp_146 => ?_)
          rcases hp_146 with ⟨er57, hp_146⟩ | ⟨er57, hp_146⟩
          · subst er57
            refine ⟨fun hc => absurd hc (by decide), fun _ => ?_⟩
            have g_147 : (Int32.toInt64 b5).toInt = b5.toInt := (a_wide rfl)
            have g_148 : (0 : Int64).toInt = 0 := by decide
            have g_149 : (5000 : Int64).toInt = 5000 := by decide
            refine s_X9_in (Int32.toInt64 b5) ((0 : Int64)) ((5000 : Int64)) z1 _ tz1  (fun r60 hp_150 => ?_)
            rcases hp_150 with ⟨er60, hp_150⟩ | ⟨er60, hp_150⟩
            · subst er60
              refine ⟨fun hc => absurd hc (by decide), fun _ => ?_⟩
              refine hK_2 ((1 : Int32)) ?_
              intro K_151 hK_190
              intro K_176 hK_191
              refine ⟨fun hc => absurd hc (by decide), fun _ => ?_⟩
              intro K_178 hK_192
              refine ⟨fun c_187 => ?_, fun c_187 => ?_⟩
              · skip
                have i_193 := i_lt rfl (show (2 : Int32).toInt = 2 by decide) c_187
                refine hK_192  ?_
                intro K_194 hK_202
                refine ⟨fun c_199 => ?_, fun c_199 => ?_⟩
                · skip
                  have i_203 := i_lt rfl (show (3 : Int32).toInt = 3 by decide) c_199
                  refine hK_202  ?_
                  intro K_204 hK_208
                  refine ⟨fun c_205 => ?_, fun c_205 => ?_⟩
                  · skip
                    have i_209 := i_lt rfl (show (4 : Int32).toInt = 4 by decide) c_205
                    refine hK_208  ?_
                    refine hK_190 ((1 : Int32)) ?_
                    refine ⟨fun _ => ?_, fun hc => absurd hc (by decide)⟩
                    refine s_X9_isHome b1 z1 _ tz1  (fun r_211 hp_233 => ?_)
                    rcases hp_233 with ⟨er_211, hp_233⟩ | ⟨er_211, hp_233⟩
                    · subst er_211
                      have f_234 : 0 ≤ (gI z1 8).toInt ∧ (gI z1 8).toInt ≤ 4 := tz1.1 8
                      have q_235 := (show (gI z1 8).toInt = (gI z 8).toInt by rw [ez1]; rfl)
                      have f_236 : 0 ≤ (gI z 8).toInt ∧ (gI z 8).toInt ≤ 4 := ht.1 8
                      refine ⟨fun _ => ?_, fun hc => absurd hc (by decide)⟩
                      refine ⟨fun c_213 => ?_, fun c_213 => ?_⟩
                      · skip
                        have f_237 : 0 ≤ (gI z1 12).toInt ∧ (gI z1 12).toInt ≤ 16 := tz1.1 12
                        have q_238 := (show (gI z1 12).toInt = (gI z 12).toInt by rw [ez1]; rfl)
                        have f_239 : 0 ≤ (gI z 12).toInt ∧ (gI z 12).toInt ≤ 16 := ht.1 12
                        have i_240 := i_ne rfl (show (16 : Int32).toInt = 16 by decide) c_213
                        refine ⟨vin rfl (by omega) (by omega), ?_⟩
                        intro z_214 ez_214
                        have tz_214 : TM z_214 := by rw [ez_214]; exact Ty_wR tz1 (show 0 ≤ b1.toInt ∧ b1.toInt ≤ 3 from by omega)
                        have oz_214 : Same [0, 1, 12] [6, 7, 8, 9, 10, 11, 12] z z_214 := oz1.r (by decide) ez_214
                        have xz_214 : RM z_214 := by rw [ez_214]; exact xz1
                        have f_241 : 0 ≤ (gI z_214 12).toInt ∧ (gI z_214 12).toInt ≤ 16 := tz_214.1 12
                        have q_242 := ((show (gI z_214 12).toInt = (gI z1 12).toInt by rw [ez_214]; rfl)).trans (show (gI z1 12).toInt = (gI z 12).toInt by rw [ez1]; rfl)
                        refine ⟨vin rfl (by omega) (by omega), ?_⟩
                        intro z_215 ez_215
                        have tz_215 : TM z_215 := by rw [ez_215]; exact Ty_wR tz_214 (show 0 ≤ b2.toInt ∧ b2.toInt ≤ 167 from by omega)
                        have oz_215 : Same [0, 1, 12] [6, 7, 8, 9, 10, 11, 12] z z_215 := oz_214.r (by decide) ez_215
                        have f_243 : 0 ≤ (gI z_215 12).toInt ∧ (gI z_215 12).toInt ≤ 16 := tz_215.1 12
                        have q_244 := (((show (gI z_215 12).toInt = (gI z_214 12).toInt by rw [ez_215]; rfl)).trans (show (gI z_214 12).toInt = (gI z1 12).toInt by rw [ez_214]; rfl)).trans (show (gI z1 12).toInt = (gI z 12).toInt by rw [ez1]; rfl)
                        refine ⟨vin rfl (by omega) (by omega), ?_⟩
                        intro z_216 ez_216
                        have tz_216 : TM z_216 := by rw [ez_216]; exact Ty_wR tz_215 (show 0 ≤ b3.toInt ∧ b3.toInt ≤ 167 from by omega)
                        have oz_216 : Same [0, 1, 12] [6, 7, 8, 9, 10, 11, 12] z z_216 := oz_215.r (by decide) ez_216
                        have xz_216 : RM z_216 := RM_job xz_214 ez_215 ez_216 (by rw [ez_215]; rfl) (by omega)
                        have f_245 : 0 ≤ (gI z_216 12).toInt ∧ (gI z_216 12).toInt ≤ 16 := tz_216.1 12
                        have q_246 := ((((show (gI z_216 12).toInt = (gI z_215 12).toInt by rw [ez_216]; rfl)).trans (show (gI z_215 12).toInt = (gI z_214 12).toInt by rw [ez_215]; rfl)).trans (show (gI z_214 12).toInt = (gI z1 12).toInt by rw [ez_214]; rfl)).trans (show (gI z1 12).toInt = (gI z 12).toInt by rw [ez1]; rfl)
                        refine ⟨vin rfl (by omega) (by omega), ?_⟩
                        intro z_217 ez_217
                        have tz_217 : TM z_217 := by rw [ez_217]; exact Ty_wR tz_216 (show 0 ≤ b4.toInt ∧ b4.toInt ≤ 4 from by omega)
                        have oz_217 : Same [0, 1, 12] [6, 7, 8, 9, 10, 11, 12] z z_217 := oz_216.r (by decide) ez_217
                        have xz_217 : RM z_217 := by rw [ez_217]; exact xz_216
                        have f_247 : 0 ≤ (gI z_217 12).toInt ∧ (gI z_217 12).toInt ≤ 16 := tz_217.1 12
                        have q_248 := (((((show (gI z_217 12).toInt = (gI z_216 12).toInt by rw [ez_217]; rfl)).trans (show (gI z_216 12).toInt = (gI z_215 12).toInt by rw [ez_216]; rfl)).trans (show (gI z_215 12).toInt = (gI z_214 12).toInt by rw [ez_215]; rfl)).trans (show (gI z_214 12).toInt = (gI z1 12).toInt by rw [ez_214]; rfl)).trans (show (gI z1 12).toInt = (gI z 12).toInt by rw [ez1]; rfl)
                        refine ⟨vin (a_mul (show (4 : Int32).toInt = 4 by decide) rfl (by omega) (by omega)) (by omega) (by omega), ?_⟩
                        intro z_218 ez_218
                        have tz_218 : TM z_218 := by rw [ez_218]; exact Ty_wR tz_217 trivial
                        have oz_218 : Same [0, 1, 12] [6, 7, 8, 9, 10, 11, 12] z z_218 := oz_217.r (by decide) ez_218
                        have xz_218 : RM z_218 := by rw [ez_218]; exact xz_217
                        have f_249 : 0 ≤ (gI z_218 12).toInt ∧ (gI z_218 12).toInt ≤ 16 := tz_218.1 12
                        have q_250 := ((((((show (gI z_218 12).toInt = (gI z_217 12).toInt by rw [ez_218]; rfl)).trans (show (gI z_217 12).toInt = (gI z_216 12).toInt by rw [ez_217]; rfl)).trans (show (gI z_216 12).toInt = (gI z_215 12).toInt by rw [ez_216]; rfl)).trans (show (gI z_215 12).toInt = (gI z_214 12).toInt by rw [ez_215]; rfl)).trans (show (gI z_214 12).toInt = (gI z1 12).toInt by rw [ez_214]; rfl)).trans (show (gI z1 12).toInt = (gI z 12).toInt by rw [ez1]; rfl)
                        refine ⟨vin (a_add (a_mul (show (4 : Int32).toInt = 4 by decide) rfl (by omega) (by omega)) (show (1 : Int32).toInt = 1 by decide) (by omega) (by omega)) (by omega) (by omega), ?_⟩
                        intro z_219 ez_219
                        have tz_219 : TM z_219 := by rw [ez_219]; exact Ty_wR tz_218 trivial
                        have oz_219 : Same [0, 1, 12] [6, 7, 8, 9, 10, 11, 12] z z_219 := oz_218.r (by decide) ez_219
                        have xz_219 : RM z_219 := by rw [ez_219]; exact xz_218
                        have f_251 : 0 ≤ (gI z_219 12).toInt ∧ (gI z_219 12).toInt ≤ 16 := tz_219.1 12
                        have q_252 := (((((((show (gI z_219 12).toInt = (gI z_218 12).toInt by rw [ez_219]; rfl)).trans (show (gI z_218 12).toInt = (gI z_217 12).toInt by rw [ez_218]; rfl)).trans (show (gI z_217 12).toInt = (gI z_216 12).toInt by rw [ez_217]; rfl)).trans (show (gI z_216 12).toInt = (gI z_215 12).toInt by rw [ez_216]; rfl)).trans (show (gI z_215 12).toInt = (gI z_214 12).toInt by rw [ez_215]; rfl)).trans (show (gI z_214 12).toInt = (gI z1 12).toInt by rw [ez_214]; rfl)).trans (show (gI z1 12).toInt = (gI z 12).toInt by rw [ez1]; rfl)
                        refine ⟨vin (a_add (a_mul (show (4 : Int32).toInt = 4 by decide) rfl (by omega) (by omega)) (show (2 : Int32).toInt = 2 by decide) (by omega) (by omega)) (by omega) (by omega), ?_⟩
                        intro z_220 ez_220
                        have tz_220 : TM z_220 := by rw [ez_220]; exact Ty_wR tz_219 trivial
                        have oz_220 : Same [0, 1, 12] [6, 7, 8, 9, 10, 11, 12] z z_220 := oz_219.r (by decide) ez_220
                        have xz_220 : RM z_220 := by rw [ez_220]; exact xz_219
                        have f_253 : 0 ≤ (gI z_220 12).toInt ∧ (gI z_220 12).toInt ≤ 16 := tz_220.1 12
                        have q_254 := ((((((((show (gI z_220 12).toInt = (gI z_219 12).toInt by rw [ez_220]; rfl)).trans (show (gI z_219 12).toInt = (gI z_218 12).toInt by rw [ez_219]; rfl)).trans (show (gI z_218 12).toInt = (gI z_217 12).toInt by rw [ez_218]; rfl)).trans (show (gI z_217 12).toInt = (gI z_216 12).toInt by rw [ez_217]; rfl)).trans (show (gI z_216 12).toInt = (gI z_215 12).toInt by rw [ez_216]; rfl)).trans (show (gI z_215 12).toInt = (gI z_214 12).toInt by rw [ez_215]; rfl)).trans (show (gI z_214 12).toInt = (gI z1 12).toInt by rw [ez_214]; rfl)).trans (show (gI z1 12).toInt = (gI z 12).toInt by rw [ez1]; rfl)
                        refine ⟨vin (a_add (a_mul (show (4 : Int32).toInt = 4 by decide) rfl (by omega) (by omega)) (show (3 : Int32).toInt = 3 by decide) (by omega) (by omega)) (by omega) (by omega), ?_⟩
                        intro z_221 ez_221
                        have tz_221 : TM z_221 := by rw [ez_221]; exact Ty_wR tz_220 trivial
                        have oz_221 : Same [0, 1, 12] [6, 7, 8, 9, 10, 11, 12] z z_221 := oz_220.r (by decide) ez_221
                        have xz_221 : RM z_221 := by rw [ez_221]; exact xz_220
                        have f_255 : 0 ≤ (gI z_221 12).toInt ∧ (gI z_221 12).toInt ≤ 16 := tz_221.1 12
                        have q_256 := (((((((((show (gI z_221 12).toInt = (gI z_220 12).toInt by rw [ez_221]; rfl)).trans (show (gI z_220 12).toInt = (gI z_219 12).toInt by rw [ez_220]; rfl)).trans (show (gI z_219 12).toInt = (gI z_218 12).toInt by rw [ez_219]; rfl)).trans (show (gI z_218 12).toInt = (gI z_217 12).toInt by rw [ez_218]; rfl)).trans (show (gI z_217 12).toInt = (gI z_216 12).toInt by rw [ez_217]; rfl)).trans (show (gI z_216 12).toInt = (gI z_215 12).toInt by rw [ez_216]; rfl)).trans (show (gI z_215 12).toInt = (gI z_214 12).toInt by rw [ez_215]; rfl)).trans (show (gI z_214 12).toInt = (gI z1 12).toInt by rw [ez_214]; rfl)).trans (show (gI z1 12).toInt = (gI z 12).toInt by rw [ez1]; rfl)
                        refine ⟨vin rfl (by omega) (by omega), ?_⟩
                        intro z_222 ez_222
                        have tz_222 : TM z_222 := by rw [ez_222]; exact Ty_wR tz_221 trivial
                        have oz_222 : Same [0, 1, 12] [6, 7, 8, 9, 10, 11, 12] z z_222 := oz_221.r (by decide) ez_222
                        have xz_222 : RM z_222 := by rw [ez_222]; exact xz_221
                        have f_257 : 0 ≤ (gI z_222 12).toInt ∧ (gI z_222 12).toInt ≤ 16 := tz_222.1 12
                        have q_258 := ((((((((((show (gI z_222 12).toInt = (gI z_221 12).toInt by rw [ez_222]; rfl)).trans (show (gI z_221 12).toInt = (gI z_220 12).toInt by rw [ez_221]; rfl)).trans (show (gI z_220 12).toInt = (gI z_219 12).toInt by rw [ez_220]; rfl)).trans (show (gI z_219 12).toInt = (gI z_218 12).toInt by rw [ez_219]; rfl)).trans (show (gI z_218 12).toInt = (gI z_217 12).toInt by rw [ez_218]; rfl)).trans (show (gI z_217 12).toInt = (gI z_216 12).toInt by rw [ez_217]; rfl)).trans (show (gI z_216 12).toInt = (gI z_215 12).toInt by rw [ez_216]; rfl)).trans (show (gI z_215 12).toInt = (gI z_214 12).toInt by rw [ez_215]; rfl)).trans (show (gI z_214 12).toInt = (gI z1 12).toInt by rw [ez_214]; rfl)).trans (show (gI z1 12).toInt = (gI z 12).toInt by rw [ez1]; rfl)
                        refine ⟨vin rfl (by omega) (by omega), ?_⟩
                        intro z_223 ez_223
                        have tz_223 : TM z_223 := by rw [ez_223]; exact Ty_wR tz_222 trivial
                        have oz_223 : Same [0, 1, 12] [6, 7, 8, 9, 10, 11, 12] z z_223 := oz_222.r (by decide) ez_223
                        have xz_223 : RM z_223 := by rw [ez_223]; exact xz_222
                        intro z_224 ez_224
                        have f_259 : 0 ≤ (gI z_223 12).toInt ∧ (gI z_223 12).toInt ≤ 16 := tz_223.1 12
                        have q_260 := (((((((((((show (gI z_223 12).toInt = (gI z_222 12).toInt by rw [ez_223]; rfl)).trans (show (gI z_222 12).toInt = (gI z_221 12).toInt by rw [ez_222]; rfl)).trans (show (gI z_221 12).toInt = (gI z_220 12).toInt by rw [ez_221]; rfl)).trans (show (gI z_220 12).toInt = (gI z_219 12).toInt by rw [ez_220]; rfl)).trans (show (gI z_219 12).toInt = (gI z_218 12).toInt by rw [ez_219]; rfl)).trans (show (gI z_218 12).toInt = (gI z_217 12).toInt by rw [ez_218]; rfl)).trans (show (gI z_217 12).toInt = (gI z_216 12).toInt by rw [ez_217]; rfl)).trans (show (gI z_216 12).toInt = (gI z_215 12).toInt by rw [ez_216]; rfl)).trans (show (gI z_215 12).toInt = (gI z_214 12).toInt by rw [ez_215]; rfl)).trans (show (gI z_214 12).toInt = (gI z1 12).toInt by rw [ez_214]; rfl)).trans (show (gI z1 12).toInt = (gI z 12).toInt by rw [ez1]; rfl)
                        have tz_224 : TM z_224 := by rw [ez_224]; exact Ty_wI tz_223 (show 0 ≤ ((gI z_223 12) + (1 : Int32)).toInt ∧ ((gI z_223 12) + (1 : Int32)).toInt ≤ 16 from by rw [(a_add rfl (show (1 : Int32).toInt = 1 by decide) (by omega) (by omega))]; omega)
                        have oz_224 : Same [0, 1, 12] [6, 7, 8, 9, 10, 11, 12] z z_224 := oz_223.i (by decide) ez_224
                        have xz_224 : RM z_224 := by rw [ez_224]; exact xz_223
                        have f_261 : 0 ≤ (gI z_224 12).toInt ∧ (gI z_224 12).toInt ≤ 16 := tz_224.1 12
                        have q_262 := (show (gI z_224 12).toInt = ((gI z_223 12) + (1 : Int32)).toInt by rw [ez_224]; rfl)
                        have q_263 : ((gI z_223 12) + (1 : Int32)).toInt = ((gI z_223 12).toInt + (1)) := (a_add rfl (show (1 : Int32).toInt = 1 by decide) (by omega) (by omega))
                        have g_264 : ((gI z_224 12) - (1 : Int32)).toInt = ((gI z_224 12).toInt - (1)) := (a_sub rfl (show (1 : Int32).toInt = 1 by decide) (by omega) (by omega))
                        refine s_X9_told ((gI z_224 12) - ((1 : Int32))) z_224 _ tz_224  (fun r_225 z_226 tz_226 o_266 hp_265 => ?_)
                        have oz_226 : Same [0, 1, 12] [6, 7, 8, 9, 10, 11, 12] z z_226 := oz_224.tr o_266 (by decide) (by decide)
                        have xz_226 : RM z_226 := RM_same xz_224 o_266 (by decide) (by decide)
                        exact hk r_225 z_226 tz_226 oz_226 xz_226 trivial
                      · skip
                        have f_267 : 0 ≤ (gI z1 12).toInt ∧ (gI z1 12).toInt ≤ 16 := tz1.1 12
                        have q_268 := (show (gI z1 12).toInt = (gI z 12).toInt by rw [ez1]; rfl)
                        have f_269 : 0 ≤ (gI z 12).toInt ∧ (gI z 12).toInt ≤ 16 := ht.1 12
                        have i_270 := i_eq rfl (show (16 : Int32).toInt = 16 by decide) c_213
                        have g_271 : (-5 : Int32).toInt = -5 := by decide
                        refine s_X9_told ((-5 : Int32)) z1 _ tz1  (fun r_227 z_228 tz_228 o_273 hp_272 => ?_)
                        have oz_228 : Same [0, 1, 12] [6, 7, 8, 9, 10, 11, 12] z z_228 := oz1.tr o_273 (by decide) (by decide)
                        have xz_228 : RM z_228 := RM_same xz1 o_273 (by decide) (by decide)
                        exact hk r_227 z_228 tz_228 oz_228 xz_228 trivial
                    · subst er_211
                      have f_274 : 0 ≤ (gI z1 8).toInt ∧ (gI z1 8).toInt ≤ 4 := tz1.1 8
                      have q_275 := (show (gI z1 8).toInt = (gI z 8).toInt by rw [ez1]; rfl)
                      have f_276 : 0 ≤ (gI z 8).toInt ∧ (gI z 8).toInt ≤ 4 := ht.1 8
                      refine ⟨fun hc => absurd hc (by decide), fun _ => ?_⟩
                      have g_277 : (-2 : Int32).toInt = -2 := by decide
                      refine s_X9_told ((-2 : Int32)) z1 _ tz1  (fun r_229 z_230 tz_230 o_279 hp_278 => ?_)
                      have oz_230 : Same [0, 1, 12] [6, 7, 8, 9, 10, 11, 12] z z_230 := oz1.tr o_279 (by decide) (by decide)
                      have xz_230 : RM z_230 := RM_same xz1 o_279 (by decide) (by decide)
                      exact hk r_229 z_230 tz_230 oz_230 xz_230 trivial
                  · skip
                    have i_280 := i_nlt rfl (show (4 : Int32).toInt = 4 by decide) c_205
                    have g_281 : (Int32.toInt64 b8).toInt = b8.toInt := (a_wide rfl)
                    have g_282 : (0 : Int64).toInt = 0 := by decide
                    have g_283 : (5000 : Int64).toInt = 5000 := by decide
                    refine s_X9_in (Int32.toInt64 b8) ((0 : Int64)) ((5000 : Int64)) z1 _ tz1  (fun r_206 hp_284 => ?_)
                    rcases hp_284 with ⟨er_206, hp_284⟩ | ⟨er_206, hp_284⟩
                    · subst er_206
                      refine ⟨fun hc => absurd hc (by decide), fun _ => ?_⟩
                      refine hK_208  ?_
                      refine hK_190 ((1 : Int32)) ?_
                      refine ⟨fun _ => ?_, fun hc => absurd hc (by decide)⟩
                      refine s_X9_isHome b1 z1 _ tz1  (fun r_286 hp_308 => ?_)
                      rcases hp_308 with ⟨er_286, hp_308⟩ | ⟨er_286, hp_308⟩
                      · subst er_286
                        have f_309 : 0 ≤ (gI z1 8).toInt ∧ (gI z1 8).toInt ≤ 4 := tz1.1 8
                        have q_310 := (show (gI z1 8).toInt = (gI z 8).toInt by rw [ez1]; rfl)
                        have f_311 : 0 ≤ (gI z 8).toInt ∧ (gI z 8).toInt ≤ 4 := ht.1 8
                        refine ⟨fun _ => ?_, fun hc => absurd hc (by decide)⟩
                        refine ⟨fun c_288 => ?_, fun c_288 => ?_⟩
                        · skip
                          have f_312 : 0 ≤ (gI z1 12).toInt ∧ (gI z1 12).toInt ≤ 16 := tz1.1 12
                          have q_313 := (show (gI z1 12).toInt = (gI z 12).toInt by rw [ez1]; rfl)
                          have f_314 : 0 ≤ (gI z 12).toInt ∧ (gI z 12).toInt ≤ 16 := ht.1 12
                          have i_315 := i_ne rfl (show (16 : Int32).toInt = 16 by decide) c_288
                          refine ⟨vin rfl (by omega) (by omega), ?_⟩
                          intro z_289 ez_289
                          have tz_289 : TM z_289 := by rw [ez_289]; exact Ty_wR tz1 (show 0 ≤ b1.toInt ∧ b1.toInt ≤ 3 from by omega)
                          have oz_289 : Same [0, 1, 12] [6, 7, 8, 9, 10, 11, 12] z z_289 := oz1.r (by decide) ez_289
                          have xz_289 : RM z_289 := by rw [ez_289]; exact xz1
                          have f_316 : 0 ≤ (gI z_289 12).toInt ∧ (gI z_289 12).toInt ≤ 16 := tz_289.1 12
                          have q_317 := ((show (gI z_289 12).toInt = (gI z1 12).toInt by rw [ez_289]; rfl)).trans (show (gI z1 12).toInt = (gI z 12).toInt by rw [ez1]; rfl)
                          refine ⟨vin rfl (by omega) (by omega), ?_⟩
                          intro z_290 ez_290
                          have tz_290 : TM z_290 := by rw [ez_290]; exact Ty_wR tz_289 (show 0 ≤ b2.toInt ∧ b2.toInt ≤ 167 from by omega)
                          have oz_290 : Same [0, 1, 12] [6, 7, 8, 9, 10, 11, 12] z z_290 := oz_289.r (by decide) ez_290
                          have f_318 : 0 ≤ (gI z_290 12).toInt ∧ (gI z_290 12).toInt ≤ 16 := tz_290.1 12
                          have q_319 := (((show (gI z_290 12).toInt = (gI z_289 12).toInt by rw [ez_290]; rfl)).trans (show (gI z_289 12).toInt = (gI z1 12).toInt by rw [ez_289]; rfl)).trans (show (gI z1 12).toInt = (gI z 12).toInt by rw [ez1]; rfl)
                          refine ⟨vin rfl (by omega) (by omega), ?_⟩
                          intro z_291 ez_291
                          have tz_291 : TM z_291 := by rw [ez_291]; exact Ty_wR tz_290 (show 0 ≤ b3.toInt ∧ b3.toInt ≤ 167 from by omega)
                          have oz_291 : Same [0, 1, 12] [6, 7, 8, 9, 10, 11, 12] z z_291 := oz_290.r (by decide) ez_291
                          have xz_291 : RM z_291 := RM_job xz_289 ez_290 ez_291 (by rw [ez_290]; rfl) (by omega)
                          have f_320 : 0 ≤ (gI z_291 12).toInt ∧ (gI z_291 12).toInt ≤ 16 := tz_291.1 12
                          have q_321 := ((((show (gI z_291 12).toInt = (gI z_290 12).toInt by rw [ez_291]; rfl)).trans (show (gI z_290 12).toInt = (gI z_289 12).toInt by rw [ez_290]; rfl)).trans (show (gI z_289 12).toInt = (gI z1 12).toInt by rw [ez_289]; rfl)).trans (show (gI z1 12).toInt = (gI z 12).toInt by rw [ez1]; rfl)
                          refine ⟨vin rfl (by omega) (by omega), ?_⟩
                          intro z_292 ez_292
                          have tz_292 : TM z_292 := by rw [ez_292]; exact Ty_wR tz_291 (show 0 ≤ b4.toInt ∧ b4.toInt ≤ 4 from by omega)
                          have oz_292 : Same [0, 1, 12] [6, 7, 8, 9, 10, 11, 12] z z_292 := oz_291.r (by decide) ez_292
                          have xz_292 : RM z_292 := by rw [ez_292]; exact xz_291
                          have f_322 : 0 ≤ (gI z_292 12).toInt ∧ (gI z_292 12).toInt ≤ 16 := tz_292.1 12
                          have q_323 := (((((show (gI z_292 12).toInt = (gI z_291 12).toInt by rw [ez_292]; rfl)).trans (show (gI z_291 12).toInt = (gI z_290 12).toInt by rw [ez_291]; rfl)).trans (show (gI z_290 12).toInt = (gI z_289 12).toInt by rw [ez_290]; rfl)).trans (show (gI z_289 12).toInt = (gI z1 12).toInt by rw [ez_289]; rfl)).trans (show (gI z1 12).toInt = (gI z 12).toInt by rw [ez1]; rfl)
                          refine ⟨vin (a_mul (show (4 : Int32).toInt = 4 by decide) rfl (by omega) (by omega)) (by omega) (by omega), ?_⟩
                          intro z_293 ez_293
                          have tz_293 : TM z_293 := by rw [ez_293]; exact Ty_wR tz_292 trivial
                          have oz_293 : Same [0, 1, 12] [6, 7, 8, 9, 10, 11, 12] z z_293 := oz_292.r (by decide) ez_293
                          have xz_293 : RM z_293 := by rw [ez_293]; exact xz_292
                          have f_324 : 0 ≤ (gI z_293 12).toInt ∧ (gI z_293 12).toInt ≤ 16 := tz_293.1 12
                          have q_325 := ((((((show (gI z_293 12).toInt = (gI z_292 12).toInt by rw [ez_293]; rfl)).trans (show (gI z_292 12).toInt = (gI z_291 12).toInt by rw [ez_292]; rfl)).trans (show (gI z_291 12).toInt = (gI z_290 12).toInt by rw [ez_291]; rfl)).trans (show (gI z_290 12).toInt = (gI z_289 12).toInt by rw [ez_290]; rfl)).trans (show (gI z_289 12).toInt = (gI z1 12).toInt by rw [ez_289]; rfl)).trans (show (gI z1 12).toInt = (gI z 12).toInt by rw [ez1]; rfl)
                          refine ⟨vin (a_add (a_mul (show (4 : Int32).toInt = 4 by decide) rfl (by omega) (by omega)) (show (1 : Int32).toInt = 1 by decide) (by omega) (by omega)) (by omega) (by omega), ?_⟩
                          intro z_294 ez_294
                          have tz_294 : TM z_294 := by rw [ez_294]; exact Ty_wR tz_293 trivial
                          have oz_294 : Same [0, 1, 12] [6, 7, 8, 9, 10, 11, 12] z z_294 := oz_293.r (by decide) ez_294
                          have xz_294 : RM z_294 := by rw [ez_294]; exact xz_293
                          have f_326 : 0 ≤ (gI z_294 12).toInt ∧ (gI z_294 12).toInt ≤ 16 := tz_294.1 12
                          have q_327 := (((((((show (gI z_294 12).toInt = (gI z_293 12).toInt by rw [ez_294]; rfl)).trans (show (gI z_293 12).toInt = (gI z_292 12).toInt by rw [ez_293]; rfl)).trans (show (gI z_292 12).toInt = (gI z_291 12).toInt by rw [ez_292]; rfl)).trans (show (gI z_291 12).toInt = (gI z_290 12).toInt by rw [ez_291]; rfl)).trans (show (gI z_290 12).toInt = (gI z_289 12).toInt by rw [ez_290]; rfl)).trans (show (gI z_289 12).toInt = (gI z1 12).toInt by rw [ez_289]; rfl)).trans (show (gI z1 12).toInt = (gI z 12).toInt by rw [ez1]; rfl)
                          refine ⟨vin (a_add (a_mul (show (4 : Int32).toInt = 4 by decide) rfl (by omega) (by omega)) (show (2 : Int32).toInt = 2 by decide) (by omega) (by omega)) (by omega) (by omega), ?_⟩
                          intro z_295 ez_295
                          have tz_295 : TM z_295 := by rw [ez_295]; exact Ty_wR tz_294 trivial
                          have oz_295 : Same [0, 1, 12] [6, 7, 8, 9, 10, 11, 12] z z_295 := oz_294.r (by decide) ez_295
                          have xz_295 : RM z_295 := by rw [ez_295]; exact xz_294
                          have f_328 : 0 ≤ (gI z_295 12).toInt ∧ (gI z_295 12).toInt ≤ 16 := tz_295.1 12
                          have q_329 := ((((((((show (gI z_295 12).toInt = (gI z_294 12).toInt by rw [ez_295]; rfl)).trans (show (gI z_294 12).toInt = (gI z_293 12).toInt by rw [ez_294]; rfl)).trans (show (gI z_293 12).toInt = (gI z_292 12).toInt by rw [ez_293]; rfl)).trans (show (gI z_292 12).toInt = (gI z_291 12).toInt by rw [ez_292]; rfl)).trans (show (gI z_291 12).toInt = (gI z_290 12).toInt by rw [ez_291]; rfl)).trans (show (gI z_290 12).toInt = (gI z_289 12).toInt by rw [ez_290]; rfl)).trans (show (gI z_289 12).toInt = (gI z1 12).toInt by rw [ez_289]; rfl)).trans (show (gI z1 12).toInt = (gI z 12).toInt by rw [ez1]; rfl)
                          refine ⟨vin (a_add (a_mul (show (4 : Int32).toInt = 4 by decide) rfl (by omega) (by omega)) (show (3 : Int32).toInt = 3 by decide) (by omega) (by omega)) (by omega) (by omega), ?_⟩
                          intro z_296 ez_296
                          have tz_296 : TM z_296 := by rw [ez_296]; exact Ty_wR tz_295 trivial
                          have oz_296 : Same [0, 1, 12] [6, 7, 8, 9, 10, 11, 12] z z_296 := oz_295.r (by decide) ez_296
                          have xz_296 : RM z_296 := by rw [ez_296]; exact xz_295
                          have f_330 : 0 ≤ (gI z_296 12).toInt ∧ (gI z_296 12).toInt ≤ 16 := tz_296.1 12
                          have q_331 := (((((((((show (gI z_296 12).toInt = (gI z_295 12).toInt by rw [ez_296]; rfl)).trans (show (gI z_295 12).toInt = (gI z_294 12).toInt by rw [ez_295]; rfl)).trans (show (gI z_294 12).toInt = (gI z_293 12).toInt by rw [ez_294]; rfl)).trans (show (gI z_293 12).toInt = (gI z_292 12).toInt by rw [ez_293]; rfl)).trans (show (gI z_292 12).toInt = (gI z_291 12).toInt by rw [ez_292]; rfl)).trans (show (gI z_291 12).toInt = (gI z_290 12).toInt by rw [ez_291]; rfl)).trans (show (gI z_290 12).toInt = (gI z_289 12).toInt by rw [ez_290]; rfl)).trans (show (gI z_289 12).toInt = (gI z1 12).toInt by rw [ez_289]; rfl)).trans (show (gI z1 12).toInt = (gI z 12).toInt by rw [ez1]; rfl)
                          refine ⟨vin rfl (by omega) (by omega), ?_⟩
                          intro z_297 ez_297
                          have tz_297 : TM z_297 := by rw [ez_297]; exact Ty_wR tz_296 trivial
                          have oz_297 : Same [0, 1, 12] [6, 7, 8, 9, 10, 11, 12] z z_297 := oz_296.r (by decide) ez_297
                          have xz_297 : RM z_297 := by rw [ez_297]; exact xz_296
                          have f_332 : 0 ≤ (gI z_297 12).toInt ∧ (gI z_297 12).toInt ≤ 16 := tz_297.1 12
                          have q_333 := ((((((((((show (gI z_297 12).toInt = (gI z_296 12).toInt by rw [ez_297]; rfl)).trans (show (gI z_296 12).toInt = (gI z_295 12).toInt by rw [ez_296]; rfl)).trans (show (gI z_295 12).toInt = (gI z_294 12).toInt by rw [ez_295]; rfl)).trans (show (gI z_294 12).toInt = (gI z_293 12).toInt by rw [ez_294]; rfl)).trans (show (gI z_293 12).toInt = (gI z_292 12).toInt by rw [ez_293]; rfl)).trans (show (gI z_292 12).toInt = (gI z_291 12).toInt by rw [ez_292]; rfl)).trans (show (gI z_291 12).toInt = (gI z_290 12).toInt by rw [ez_291]; rfl)).trans (show (gI z_290 12).toInt = (gI z_289 12).toInt by rw [ez_290]; rfl)).trans (show (gI z_289 12).toInt = (gI z1 12).toInt by rw [ez_289]; rfl)).trans (show (gI z1 12).toInt = (gI z 12).toInt by rw [ez1]; rfl)
                          refine ⟨vin rfl (by omega) (by omega), ?_⟩
                          intro z_298 ez_298
                          have tz_298 : TM z_298 := by rw [ez_298]; exact Ty_wR tz_297 trivial
                          have oz_298 : Same [0, 1, 12] [6, 7, 8, 9, 10, 11, 12] z z_298 := oz_297.r (by decide) ez_298
                          have xz_298 : RM z_298 := by rw [ez_298]; exact xz_297
                          intro z_299 ez_299
                          have f_334 : 0 ≤ (gI z_298 12).toInt ∧ (gI z_298 12).toInt ≤ 16 := tz_298.1 12
                          have q_335 := (((((((((((show (gI z_298 12).toInt = (gI z_297 12).toInt by rw [ez_298]; rfl)).trans (show (gI z_297 12).toInt = (gI z_296 12).toInt by rw [ez_297]; rfl)).trans (show (gI z_296 12).toInt = (gI z_295 12).toInt by rw [ez_296]; rfl)).trans (show (gI z_295 12).toInt = (gI z_294 12).toInt by rw [ez_295]; rfl)).trans (show (gI z_294 12).toInt = (gI z_293 12).toInt by rw [ez_294]; rfl)).trans (show (gI z_293 12).toInt = (gI z_292 12).toInt by rw [ez_293]; rfl)).trans (show (gI z_292 12).toInt = (gI z_291 12).toInt by rw [ez_292]; rfl)).trans (show (gI z_291 12).toInt = (gI z_290 12).toInt by rw [ez_291]; rfl)).trans (show (gI z_290 12).toInt = (gI z_289 12).toInt by rw [ez_290]; rfl)).trans (show (gI z_289 12).toInt = (gI z1 12).toInt by rw [ez_289]; rfl)).trans (show (gI z1 12).toInt = (gI z 12).toInt by rw [ez1]; rfl)
                          have tz_299 : TM z_299 := by rw [ez_299]; exact Ty_wI tz_298 (show 0 ≤ ((gI z_298 12) + (1 : Int32)).toInt ∧ ((gI z_298 12) + (1 : Int32)).toInt ≤ 16 from by rw [(a_add rfl (show (1 : Int32).toInt = 1 by decide) (by omega) (by omega))]; omega)
                          have oz_299 : Same [0, 1, 12] [6, 7, 8, 9, 10, 11, 12] z z_299 := oz_298.i (by decide) ez_299
                          have xz_299 : RM z_299 := by rw [ez_299]; exact xz_298
                          have f_336 : 0 ≤ (gI z_299 12).toInt ∧ (gI z_299 12).toInt ≤ 16 := tz_299.1 12
                          have q_337 := (show (gI z_299 12).toInt = ((gI z_298 12) + (1 : Int32)).toInt by rw [ez_299]; rfl)
                          have q_338 : ((gI z_298 12) + (1 : Int32)).toInt = ((gI z_298 12).toInt + (1)) := (a_add rfl (show (1 : Int32).toInt = 1 by decide) (by omega) (by omega))
                          have g_339 : ((gI z_299 12) - (1 : Int32)).toInt = ((gI z_299 12).toInt - (1)) := (a_sub rfl (show (1 : Int32).toInt = 1 by decide) (by omega) (by omega))
                          refine s_X9_told ((gI z_299 12) - ((1 : Int32))) z_299 _ tz_299  (fun r_300 z_301 tz_301 o_341 hp_340 => ?_)
                          have oz_301 : Same [0, 1, 12] [6, 7, 8, 9, 10, 11, 12] z z_301 := oz_299.tr o_341 (by decide) (by decide)
                          have xz_301 : RM z_301 := RM_same xz_299 o_341 (by decide) (by decide)
                          exact hk r_300 z_301 tz_301 oz_301 xz_301 trivial
                        · skip
                          have f_342 : 0 ≤ (gI z1 12).toInt ∧ (gI z1 12).toInt ≤ 16 := tz1.1 12
                          have q_343 := (show (gI z1 12).toInt = (gI z 12).toInt by rw [ez1]; rfl)
                          have f_344 : 0 ≤ (gI z 12).toInt ∧ (gI z 12).toInt ≤ 16 := ht.1 12
                          have i_345 := i_eq rfl (show (16 : Int32).toInt = 16 by decide) c_288
                          have g_346 : (-5 : Int32).toInt = -5 := by decide
                          refine s_X9_told ((-5 : Int32)) z1 _ tz1  (fun r_302 z_303 tz_303 o_348 hp_347 => ?_)
                          have oz_303 : Same [0, 1, 12] [6, 7, 8, 9, 10, 11, 12] z z_303 := oz1.tr o_348 (by decide) (by decide)
                          have xz_303 : RM z_303 := RM_same xz1 o_348 (by decide) (by decide)
                          exact hk r_302 z_303 tz_303 oz_303 xz_303 trivial
                      · subst er_286
                        have f_349 : 0 ≤ (gI z1 8).toInt ∧ (gI z1 8).toInt ≤ 4 := tz1.1 8
                        have q_350 := (show (gI z1 8).toInt = (gI z 8).toInt by rw [ez1]; rfl)
                        have f_351 : 0 ≤ (gI z 8).toInt ∧ (gI z 8).toInt ≤ 4 := ht.1 8
                        refine ⟨fun hc => absurd hc (by decide), fun _ => ?_⟩
                        have g_352 : (-2 : Int32).toInt = -2 := by decide
                        refine s_X9_told ((-2 : Int32)) z1 _ tz1  (fun r_304 z_305 tz_305 o_354 hp_353 => ?_)
                        have oz_305 : Same [0, 1, 12] [6, 7, 8, 9, 10, 11, 12] z z_305 := oz1.tr o_354 (by decide) (by decide)
                        have xz_305 : RM z_305 := RM_same xz1 o_354 (by decide) (by decide)
                        exact hk r_304 z_305 tz_305 oz_305 xz_305 trivial
                    · subst er_206
                      refine ⟨fun _ => ?_, fun hc => absurd (show ((0 : Int32)) = ((0 : Int32)) by decide) hc⟩
                      refine hK_191  ?_
                      refine hK_190 ((0 : Int32)) ?_
                      refine ⟨fun hc => absurd hc (by decide), fun _ => ?_⟩
                      have g_378 : (-1 : Int32).toInt = -1 := by decide
                      refine s_X9_told ((-1 : Int32)) z1 _ tz1  (fun r_376 z_377 tz_377 o_380 hp_379 => ?_)
                      have oz_377 : Same [0, 1, 12] [6, 7, 8, 9, 10, 11, 12] z z_377 := oz1.tr o_380 (by decide) (by decide)
                      have xz_377 : RM z_377 := RM_same xz1 o_380 (by decide) (by decide)
                      exact hk r_376 z_377 tz_377 oz_377 xz_377 trivial
                · skip
                  have i_381 := i_nlt rfl (show (3 : Int32).toInt = 3 by decide) c_199
                  have g_382 : (Int32.toInt64 b7).toInt = b7.toInt := (a_wide rfl)
                  have g_383 : (0 : Int64).toInt = 0 := by decide
                  have g_384 : (5000 : Int64).toInt = 5000 := by decide
                  refine s_X9_in (Int32.toInt64 b7) ((0 : Int64)) ((5000 : Int64)) z1 _ tz1  (fun r_200 hp_385 => ?_)
                  rcases hp_385 with ⟨er_200, hp_385⟩ | ⟨er_200, hp_385⟩
                  · subst er_200
                    refine ⟨fun hc => absurd hc (by decide), fun _ => ?_⟩
                    refine hK_202  ?_
                    intro K_386 hK_390
                    refine ⟨fun c_387 => ?_, fun c_387 => ?_⟩
                    · skip
                      have i_391 := i_lt rfl (show (4 : Int32).toInt = 4 by decide) c_387
                      refine hK_390  ?_
                      refine hK_190 ((1 : Int32)) ?_
                      refine ⟨fun _ => ?_, fun hc => absurd hc (by decide)⟩
                      refine s_X9_isHome b1 z1 _ tz1  (fun r_393 hp_415 => ?_)
                      rcases hp_415 with ⟨er_393, hp_415⟩ | ⟨er_393, hp_415⟩
                      · subst er_393
                        have f_416 : 0 ≤ (gI z1 8).toInt ∧ (gI z1 8).toInt ≤ 4 := tz1.1 8
                        have q_417 := (show (gI z1 8).toInt = (gI z 8).toInt by rw [ez1]; rfl)
                        have f_418 : 0 ≤ (gI z 8).toInt ∧ (gI z 8).toInt ≤ 4 := ht.1 8
                        refine ⟨fun _ => ?_, fun hc => absurd hc (by decide)⟩
                        refine ⟨fun c_395 => ?_, fun c_395 => ?_⟩
                        · skip
                          have f_419 : 0 ≤ (gI z1 12).toInt ∧ (gI z1 12).toInt ≤ 16 := tz1.1 12
                          have q_420 := (show (gI z1 12).toInt = (gI z 12).toInt by rw [ez1]; rfl)
                          have f_421 : 0 ≤ (gI z 12).toInt ∧ (gI z 12).toInt ≤ 16 := ht.1 12
                          have i_422 := i_ne rfl (show (16 : Int32).toInt = 16 by decide) c_395
                          refine ⟨vin rfl (by omega) (by omega), ?_⟩
                          intro z_396 ez_396
                          have tz_396 : TM z_396 := by rw [ez_396]; exact Ty_wR tz1 (show 0 ≤ b1.toInt ∧ b1.toInt ≤ 3 from by omega)
                          have oz_396 : Same [0, 1, 12] [6, 7, 8, 9, 10, 11, 12] z z_396 := oz1.r (by decide) ez_396
                          have xz_396 : RM z_396 := by rw [ez_396]; exact xz1
                          have f_423 : 0 ≤ (gI z_396 12).toInt ∧ (gI z_396 12).toInt ≤ 16 := tz_396.1 12
                          have q_424 := ((show (gI z_396 12).toInt = (gI z1 12).toInt by rw [ez_396]; rfl)).trans (show (gI z1 12).toInt = (gI z 12).toInt by rw [ez1]; rfl)
                          refine ⟨vin rfl (by omega) (by omega), ?_⟩
                          intro z_397 ez_397
                          have tz_397 : TM z_397 := by rw [ez_397]; exact Ty_wR tz_396 (show 0 ≤ b2.toInt ∧ b2.toInt ≤ 167 from by omega)
                          have oz_397 : Same [0, 1, 12] [6, 7, 8, 9, 10, 11, 12] z z_397 := oz_396.r (by decide) ez_397
                          have f_425 : 0 ≤ (gI z_397 12).toInt ∧ (gI z_397 12).toInt ≤ 16 := tz_397.1 12
                          have q_426 := (((show (gI z_397 12).toInt = (gI z_396 12).toInt by rw [ez_397]; rfl)).trans (show (gI z_396 12).toInt = (gI z1 12).toInt by rw [ez_396]; rfl)).trans (show (gI z1 12).toInt = (gI z 12).toInt by rw [ez1]; rfl)
                          refine ⟨vin rfl (by omega) (by omega), ?_⟩
                          intro z_398 ez_398
                          have tz_398 : TM z_398 := by rw [ez_398]; exact Ty_wR tz_397 (show 0 ≤ b3.toInt ∧ b3.toInt ≤ 167 from by omega)
                          have oz_398 : Same [0, 1, 12] [6, 7, 8, 9, 10, 11, 12] z z_398 := oz_397.r (by decide) ez_398
                          have xz_398 : RM z_398 := RM_job xz_396 ez_397 ez_398 (by rw [ez_397]; rfl) (by omega)
                          have f_427 : 0 ≤ (gI z_398 12).toInt ∧ (gI z_398 12).toInt ≤ 16 := tz_398.1 12
                          have q_428 := ((((show (gI z_398 12).toInt = (gI z_397 12).toInt by rw [ez_398]; rfl)).trans (show (gI z_397 12).toInt = (gI z_396 12).toInt by rw [ez_397]; rfl)).trans (show (gI z_396 12).toInt = (gI z1 12).toInt by rw [ez_396]; rfl)).trans (show (gI z1 12).toInt = (gI z 12).toInt by rw [ez1]; rfl)
                          refine ⟨vin rfl (by omega) (by omega), ?_⟩
                          intro z_399 ez_399
                          have tz_399 : TM z_399 := by rw [ez_399]; exact Ty_wR tz_398 (show 0 ≤ b4.toInt ∧ b4.toInt ≤ 4 from by omega)
                          have oz_399 : Same [0, 1, 12] [6, 7, 8, 9, 10, 11, 12] z z_399 := oz_398.r (by decide) ez_399
                          have xz_399 : RM z_399 := by rw [ez_399]; exact xz_398
                          have f_429 : 0 ≤ (gI z_399 12).toInt ∧ (gI z_399 12).toInt ≤ 16 := tz_399.1 12
                          have q_430 := (((((show (gI z_399 12).toInt = (gI z_398 12).toInt by rw [ez_399]; rfl)).trans (show (gI z_398 12).toInt = (gI z_397 12).toInt by rw [ez_398]; rfl)).trans (show (gI z_397 12).toInt = (gI z_396 12).toInt by rw [ez_397]; rfl)).trans (show (gI z_396 12).toInt = (gI z1 12).toInt by rw [ez_396]; rfl)).trans (show (gI z1 12).toInt = (gI z 12).toInt by rw [ez1]; rfl)
                          refine ⟨vin (a_mul (show (4 : Int32).toInt = 4 by decide) rfl (by omega) (by omega)) (by omega) (by omega), ?_⟩
                          intro z_400 ez_400
                          have tz_400 : TM z_400 := by rw [ez_400]; exact Ty_wR tz_399 trivial
                          have oz_400 : Same [0, 1, 12] [6, 7, 8, 9, 10, 11, 12] z z_400 := oz_399.r (by decide) ez_400
                          have xz_400 : RM z_400 := by rw [ez_400]; exact xz_399
                          have f_431 : 0 ≤ (gI z_400 12).toInt ∧ (gI z_400 12).toInt ≤ 16 := tz_400.1 12
                          have q_432 := ((((((show (gI z_400 12).toInt = (gI z_399 12).toInt by rw [ez_400]; rfl)).trans (show (gI z_399 12).toInt = (gI z_398 12).toInt by rw [ez_399]; rfl)).trans (show (gI z_398 12).toInt = (gI z_397 12).toInt by rw [ez_398]; rfl)).trans (show (gI z_397 12).toInt = (gI z_396 12).toInt by rw [ez_397]; rfl)).trans (show (gI z_396 12).toInt = (gI z1 12).toInt by rw [ez_396]; rfl)).trans (show (gI z1 12).toInt = (gI z 12).toInt by rw [ez1]; rfl)
                          refine ⟨vin (a_add (a_mul (show (4 : Int32).toInt = 4 by decide) rfl (by omega) (by omega)) (show (1 : Int32).toInt = 1 by decide) (by omega) (by omega)) (by omega) (by omega), ?_⟩
                          intro z_401 ez_401
                          have tz_401 : TM z_401 := by rw [ez_401]; exact Ty_wR tz_400 trivial
                          have oz_401 : Same [0, 1, 12] [6, 7, 8, 9, 10, 11, 12] z z_401 := oz_400.r (by decide) ez_401
                          have xz_401 : RM z_401 := by rw [ez_401]; exact xz_400
                          have f_433 : 0 ≤ (gI z_401 12).toInt ∧ (gI z_401 12).toInt ≤ 16 := tz_401.1 12
                          have q_434 := (((((((show (gI z_401 12).toInt = (gI z_400 12).toInt by rw [ez_401]; rfl)).trans (show (gI z_400 12).toInt = (gI z_399 12).toInt by rw [ez_400]; rfl)).trans (show (gI z_399 12).toInt = (gI z_398 12).toInt by rw [ez_399]; rfl)).trans (show (gI z_398 12).toInt = (gI z_397 12).toInt by rw [ez_398]; rfl)).trans (show (gI z_397 12).toInt = (gI z_396 12).toInt by rw [ez_397]; rfl)).trans (show (gI z_396 12).toInt = (gI z1 12).toInt by rw [ez_396]; rfl)).trans (show (gI z1 12).toInt = (gI z 12).toInt by rw [ez1]; rfl)
                          refine ⟨vin (a_add (a_mul (show (4 : Int32).toInt = 4 by decide) rfl (by omega) (by omega)) (show (2 : Int32).toInt = 2 by decide) (by omega) (by omega)) (by omega) (by omega), ?_⟩
                          intro z_402 ez_402
                          have tz_402 : TM z_402 := by rw [ez_402]; exact Ty_wR tz_401 trivial
                          have oz_402 : Same [0, 1, 12] [6, 7, 8, 9, 10, 11, 12] z z_402 := oz_401.r (by decide) ez_402
                          have xz_402 : RM z_402 := by rw [ez_402]; exact xz_401
                          have f_435 : 0 ≤ (gI z_402 12).toInt ∧ (gI z_402 12).toInt ≤ 16 := tz_402.1 12
                          have q_436 := ((((((((show (gI z_402 12).toInt = (gI z_401 12).toInt by rw [ez_402]; rfl)).trans (show (gI z_401 12).toInt = (gI z_400 12).toInt by rw [ez_401]; rfl)).trans (show (gI z_400 12).toInt = (gI z_399 12).toInt by rw [ez_400]; rfl)).trans (show (gI z_399 12).toInt = (gI z_398 12).toInt by rw [ez_399]; rfl)).trans (show (gI z_398 12).toInt = (gI z_397 12).toInt by rw [ez_398]; rfl)).trans (show (gI z_397 12).toInt = (gI z_396 12).toInt by rw [ez_397]; rfl)).trans (show (gI z_396 12).toInt = (gI z1 12).toInt by rw [ez_396]; rfl)).trans (show (gI z1 12).toInt = (gI z 12).toInt by rw [ez1]; rfl)
                          refine ⟨vin (a_add (a_mul (show (4 : Int32).toInt = 4 by decide) rfl (by omega) (by omega)) (show (3 : Int32).toInt = 3 by decide) (by omega) (by omega)) (by omega) (by omega), ?_⟩
                          intro z_403 ez_403
                          have tz_403 : TM z_403 := by rw [ez_403]; exact Ty_wR tz_402 trivial
                          have oz_403 : Same [0, 1, 12] [6, 7, 8, 9, 10, 11, 12] z z_403 := oz_402.r (by decide) ez_403
                          have xz_403 : RM z_403 := by rw [ez_403]; exact xz_402
                          have f_437 : 0 ≤ (gI z_403 12).toInt ∧ (gI z_403 12).toInt ≤ 16 := tz_403.1 12
                          have q_438 := (((((((((show (gI z_403 12).toInt = (gI z_402 12).toInt by rw [ez_403]; rfl)).trans (show (gI z_402 12).toInt = (gI z_401 12).toInt by rw [ez_402]; rfl)).trans (show (gI z_401 12).toInt = (gI z_400 12).toInt by rw [ez_401]; rfl)).trans (show (gI z_400 12).toInt = (gI z_399 12).toInt by rw [ez_400]; rfl)).trans (show (gI z_399 12).toInt = (gI z_398 12).toInt by rw [ez_399]; rfl)).trans (show (gI z_398 12).toInt = (gI z_397 12).toInt by rw [ez_398]; rfl)).trans (show (gI z_397 12).toInt = (gI z_396 12).toInt by rw [ez_397]; rfl)).trans (show (gI z_396 12).toInt = (gI z1 12).toInt by rw [ez_396]; rfl)).trans (show (gI z1 12).toInt = (gI z 12).toInt by rw [ez1]; rfl)
                          refine ⟨vin rfl (by omega) (by omega), ?_⟩
                          intro z_404 ez_404
                          have tz_404 : TM z_404 := by rw [ez_404]; exact Ty_wR tz_403 trivial
                          have oz_404 : Same [0, 1, 12] [6, 7, 8, 9, 10, 11, 12] z z_404 := oz_403.r (by decide) ez_404
                          have xz_404 : RM z_404 := by rw [ez_404]; exact xz_403
                          have f_439 : 0 ≤ (gI z_404 12).toInt ∧ (gI z_404 12).toInt ≤ 16 := tz_404.1 12
                          have q_440 := ((((((((((show (gI z_404 12).toInt = (gI z_403 12).toInt by rw [ez_404]; rfl)).trans (show (gI z_403 12).toInt = (gI z_402 12).toInt by rw [ez_403]; rfl)).trans (show (gI z_402 12).toInt = (gI z_401 12).toInt by rw [ez_402]; rfl)).trans (show (gI z_401 12).toInt = (gI z_400 12).toInt by rw [ez_401]; rfl)).trans (show (gI z_400 12).toInt = (gI z_399 12).toInt by rw [ez_400]; rfl)).trans (show (gI z_399 12).toInt = (gI z_398 12).toInt by rw [ez_399]; rfl)).trans (show (gI z_398 12).toInt = (gI z_397 12).toInt by rw [ez_398]; rfl)).trans (show (gI z_397 12).toInt = (gI z_396 12).toInt by rw [ez_397]; rfl)).trans (show (gI z_396 12).toInt = (gI z1 12).toInt by rw [ez_396]; rfl)).trans (show (gI z1 12).toInt = (gI z 12).toInt by rw [ez1]; rfl)
                          refine ⟨vin rfl (by omega) (by omega), ?_⟩
                          intro z_405 ez_405
                          have tz_405 : TM z_405 := by rw [ez_405]; exact Ty_wR tz_404 trivial
                          have oz_405 : Same [0, 1, 12] [6, 7, 8, 9, 10, 11, 12] z z_405 := oz_404.r (by decide) ez_405
                          have xz_405 : RM z_405 := by rw [ez_405]; exact xz_404
                          intro z_406 ez_406
                          have f_441 : 0 ≤ (gI z_405 12).toInt ∧ (gI z_405 12).toInt ≤ 16 := tz_405.1 12
                          have q_442 := (((((((((((show (gI z_405 12).toInt = (gI z_404 12).toInt by rw [ez_405]; rfl)).trans (show (gI z_404 12).toInt = (gI z_403 12).toInt by rw [ez_404]; rfl)).trans (show (gI z_403 12).toInt = (gI z_402 12).toInt by rw [ez_403]; rfl)).trans (show (gI z_402 12).toInt = (gI z_401 12).toInt by rw [ez_402]; rfl)).trans (show (gI z_401 12).toInt = (gI z_400 12).toInt by rw [ez_401]; rfl)).trans (show (gI z_400 12).toInt = (gI z_399 12).toInt by rw [ez_400]; rfl)).trans (show (gI z_399 12).toInt = (gI z_398 12).toInt by rw [ez_399]; rfl)).trans (show (gI z_398 12).toInt = (gI z_397 12).toInt by rw [ez_398]; rfl)).trans (show (gI z_397 12).toInt = (gI z_396 12).toInt by rw [ez_397]; rfl)).trans (show (gI z_396 12).toInt = (gI z1 12).toInt by rw [ez_396]; rfl)).trans (show (gI z1 12).toInt = (gI z 12).toInt by rw [ez1]; rfl)
                          have tz_406 : TM z_406 := by rw [ez_406]; exact Ty_wI tz_405 (show 0 ≤ ((gI z_405 12) + (1 : Int32)).toInt ∧ ((gI z_405 12) + (1 : Int32)).toInt ≤ 16 from by rw [(a_add rfl (show (1 : Int32).toInt = 1 by decide) (by omega) (by omega))]; omega)
                          have oz_406 : Same [0, 1, 12] [6, 7, 8, 9, 10, 11, 12] z z_406 := oz_405.i (by decide) ez_406
                          have xz_406 : RM z_406 := by rw [ez_406]; exact xz_405
                          have f_443 : 0 ≤ (gI z_406 12).toInt ∧ (gI z_406 12).toInt ≤ 16 := tz_406.1 12
                          have q_444 := (show (gI z_406 12).toInt = ((gI z_405 12) + (1 : Int32)).toInt by rw [ez_406]; rfl)
                          have q_445 : ((gI z_405 12) + (1 : Int32)).toInt = ((gI z_405 12).toInt + (1)) := (a_add rfl (show (1 : Int32).toInt = 1 by decide) (by omega) (by omega))
                          have g_446 : ((gI z_406 12) - (1 : Int32)).toInt = ((gI z_406 12).toInt - (1)) := (a_sub rfl (show (1 : Int32).toInt = 1 by decide) (by omega) (by omega))
                          refine s_X9_told ((gI z_406 12) - ((1 : Int32))) z_406 _ tz_406  (fun r_407 z_408 tz_408 o_448 hp_447 => ?_)
                          have oz_408 : Same [0, 1, 12] [6, 7, 8, 9, 10, 11, 12] z z_408 := oz_406.tr o_448 (by decide) (by decide)
                          have xz_408 : RM z_408 := RM_same xz_406 o_448 (by decide) (by decide)
                          exact hk r_407 z_408 tz_408 oz_408 xz_408 trivial
                        · skip
                          have f_449 : 0 ≤ (gI z1 12).toInt ∧ (gI z1 12).toInt ≤ 16 := tz1.1 12
                          have q_450 := (show (gI z1 12).toInt = (gI z 12).toInt by rw [ez1]; rfl)
                          have f_451 : 0 ≤ (gI z 12).toInt ∧ (gI z 12).toInt ≤ 16 := ht.1 12
                          have i_452 := i_eq rfl (show (16 : Int32).toInt = 16 by decide) c_395
                          have g_453 : (-5 : Int32).toInt = -5 := by decide
                          refine s_X9_told ((-5 : Int32)) z1 _ tz1  (fun r_409 z_410 tz_410 o_455 hp_454 => ?_)
                          have oz_410 : Same [0, 1, 12] [6, 7, 8, 9, 10, 11, 12] z z_410 := oz1.tr o_455 (by decide) (by decide)
                          have xz_410 : RM z_410 := RM_same xz1 o_455 (by decide) (by decide)
                          exact hk r_409 z_410 tz_410 oz_410 xz_410 trivial
                      · subst er_393
                        have f_456 : 0 ≤ (gI z1 8).toInt ∧ (gI z1 8).toInt ≤ 4 := tz1.1 8
                        have q_457 := (show (gI z1 8).toInt = (gI z 8).toInt by rw [ez1]; rfl)
                        have f_458 : 0 ≤ (gI z 8).toInt ∧ (gI z 8).toInt ≤ 4 := ht.1 8
                        refine ⟨fun hc => absurd hc (by decide), fun _ => ?_⟩
                        have g_459 : (-2 : Int32).toInt = -2 := by decide
                        refine s_X9_told ((-2 : Int32)) z1 _ tz1  (fun r_411 z_412 tz_412 o_461 hp_460 => ?_)
                        have oz_412 : Same [0, 1, 12] [6, 7, 8, 9, 10, 11, 12] z z_412 := oz1.tr o_461 (by decide) (by decide)
                        have xz_412 : RM z_412 := RM_same xz1 o_461 (by decide) (by decide)
                        exact hk r_411 z_412 tz_412 oz_412 xz_412 trivial
                    · skip
                      have i_462 := i_nlt rfl (show (4 : Int32).toInt = 4 by decide) c_387
                      have g_463 : (Int32.toInt64 b8).toInt = b8.toInt := (a_wide rfl)
                      have g_464 : (0 : Int64).toInt = 0 := by decide
                      have g_465 : (5000 : Int64).toInt = 5000 := by decide
                      refine s_X9_in (Int32.toInt64 b8) ((0 : Int64)) ((5000 : Int64)) z1 _ tz1  (fun r_388 hp_466 => ?_)
                      rcases hp_466 with ⟨er_388, hp_466⟩ | ⟨er_388, hp_466⟩
                      · subst er_388
                        refine ⟨fun hc => absurd hc (by decide), fun _ => ?_⟩
                        refine hK_390  ?_
                        refine hK_190 ((1 : Int32)) ?_
                        refine ⟨fun _ => ?_, fun hc => absurd hc (by decide)⟩
                        refine s_X9_isHome b1 z1 _ tz1  (fun r_468 hp_490 => ?_)
                        rcases hp_490 with ⟨er_468, hp_490⟩ | ⟨er_468, hp_490⟩
                        · subst er_468
                          have f_491 : 0 ≤ (gI z1 8).toInt ∧ (gI z1 8).toInt ≤ 4 := tz1.1 8
                          have q_492 := (show (gI z1 8).toInt = (gI z 8).toInt by rw [ez1]; rfl)
                          have f_493 : 0 ≤ (gI z 8).toInt ∧ (gI z 8).toInt ≤ 4 := ht.1 8
                          refine ⟨fun _ => ?_, fun hc => absurd hc (by decide)⟩
                          refine ⟨fun c_470 => ?_, fun c_470 => ?_⟩
                          · skip
                            have f_494 : 0 ≤ (gI z1 12).toInt ∧ (gI z1 12).toInt ≤ 16 := tz1.1 12
                            have q_495 := (show (gI z1 12).toInt = (gI z 12).toInt by rw [ez1]; rfl)
                            have f_496 : 0 ≤ (gI z 12).toInt ∧ (gI z 12).toInt ≤ 16 := ht.1 12
                            have i_497 := i_ne rfl (show (16 : Int32).toInt = 16 by decide) c_470
                            refine ⟨vin rfl (by omega) (by omega), ?_⟩
                            intro z_471 ez_471
                            have tz_471 : TM z_471 := by rw [ez_471]; exact Ty_wR tz1 (show 0 ≤ b1.toInt ∧ b1.toInt ≤ 3 from by omega)
                            have oz_471 : Same [0, 1, 12] [6, 7, 8, 9, 10, 11, 12] z z_471 := oz1.r (by decide) ez_471
                            have xz_471 : RM z_471 := by rw [ez_471]; exact xz1
                            have f_498 : 0 ≤ (gI z_471 12).toInt ∧ (gI z_471 12).toInt ≤ 16 := tz_471.1 12
                            have q_499 := ((show (gI z_471 12).toInt = (gI z1 12).toInt by rw [ez_471]; rfl)).trans (show (gI z1 12).toInt = (gI z 12).toInt by rw [ez1]; rfl)
                            refine ⟨vin rfl (by omega) (by omega), ?_⟩
                            intro z_472 ez_472
                            have tz_472 : TM z_472 := by rw [ez_472]; exact Ty_wR tz_471 (show 0 ≤ b2.toInt ∧ b2.toInt ≤ 167 from by omega)
                            have oz_472 : Same [0, 1, 12] [6, 7, 8, 9, 10, 11, 12] z z_472 := oz_471.r (by decide) ez_472
                            have f_500 : 0 ≤ (gI z_472 12).toInt ∧ (gI z_472 12).toInt ≤ 16 := tz_472.1 12
                            have q_501 := (((show (gI z_472 12).toInt = (gI z_471 12).toInt by rw [ez_472]; rfl)).trans (show (gI z_471 12).toInt = (gI z1 12).toInt by rw [ez_471]; rfl)).trans (show (gI z1 12).toInt = (gI z 12).toInt by rw [ez1]; rfl)
                            refine ⟨vin rfl (by omega) (by omega), ?_⟩
                            intro z_473 ez_473
                            have tz_473 : TM z_473 := by rw [ez_473]; exact Ty_wR tz_472 (show 0 ≤ b3.toInt ∧ b3.toInt ≤ 167 from by omega)
                            have oz_473 : Same [0, 1, 12] [6, 7, 8, 9, 10, 11, 12] z z_473 := oz_472.r (by decide) ez_473
                            have xz_473 : RM z_473 := RM_job xz_471 ez_472 ez_473 (by rw [ez_472]; rfl) (by omega)
                            have f_502 : 0 ≤ (gI z_473 12).toInt ∧ (gI z_473 12).toInt ≤ 16 := tz_473.1 12
                            have q_503 := ((((show (gI z_473 12).toInt = (gI z_472 12).toInt by rw [ez_473]; rfl)).trans (show (gI z_472 12).toInt = (gI z_471 12).toInt by rw [ez_472]; rfl)).trans (show (gI z_471 12).toInt = (gI z1 12).toInt by rw [ez_471]; rfl)).trans (show (gI z1 12).toInt = (gI z 12).toInt by rw [ez1]; rfl)
                            refine ⟨vin rfl (by omega) (by omega), ?_⟩
                            intro z_474 ez_474
                            have tz_474 : TM z_474 := by rw [ez_474]; exact Ty_wR tz_473 (show 0 ≤ b4.toInt ∧ b4.toInt ≤ 4 from by omega)
                            have oz_474 : Same [0, 1, 12] [6, 7, 8, 9, 10, 11, 12] z z_474 := oz_473.r (by decide) ez_474
                            have xz_474 : RM z_474 := by rw [ez_474]; exact xz_473
                            have f_504 : 0 ≤ (gI z_474 12).toInt ∧ (gI z_474 12).toInt ≤ 16 := tz_474.1 12
                            have q_505 := (((((show (gI z_474 12).toInt = (gI z_473 12).toInt by rw [ez_474]; rfl)).trans (show (gI z_473 12).toInt = (gI z_472 12).toInt by rw [ez_473]; rfl)).trans (show (gI z_472 12).toInt = (gI z_471 12).toInt by rw [ez_472]; rfl)).trans (show (gI z_471 12).toInt = (gI z1 12).toInt by rw [ez_471]; rfl)).trans (show (gI z1 12).toInt = (gI z 12).toInt by rw [ez1]; rfl)
                            refine ⟨vin (a_mul (show (4 : Int32).toInt = 4 by decide) rfl (by omega) (by omega)) (by omega) (by omega), ?_⟩
                            intro z_475 ez_475
                            have tz_475 : TM z_475 := by rw [ez_475]; exact Ty_wR tz_474 trivial
                            have oz_475 : Same [0, 1, 12] [6, 7, 8, 9, 10, 11, 12] z z_475 := oz_474.r (by decide) ez_475
                            have xz_475 : RM z_475 := by rw [ez_475]; exact xz_474
                            have f_506 : 0 ≤ (gI z_475 12).toInt ∧ (gI z_475 12).toInt ≤ 16 := tz_475.1 12
                            have q_507 := ((((((show (gI z_475 12).toInt = (gI z_474 12).toInt by rw [ez_475]; rfl)).trans (show (gI z_474 12).toInt = (gI z_473 12).toInt by rw [ez_474]; rfl)).trans (show (gI z_473 12).toInt = (gI z_472 12).toInt by rw [ez_473]; rfl)).trans (show (gI z_472 12).toInt = (gI z_471 12).toInt by rw [ez_472]; rfl)).trans (show (gI z_471 12).toInt = (gI z1 12).toInt by rw [ez_471]; rfl)).trans (show (gI z1 12).toInt = (gI z 12).toInt by rw [ez1]; rfl)
                            refine ⟨vin (a_add (a_mul (show (4 : Int32).toInt = 4 by decide) rfl (by omega) (by omega)) (show (1 : Int32).toInt = 1 by decide) (by omega) (by omega)) (by omega) (by omega), ?_⟩
                            intro z_476 ez_476
                            have tz_476 : TM z_476 := by rw [ez_476]; exact Ty_wR tz_475 trivial
                            have oz_476 : Same [0, 1, 12] [6, 7, 8, 9, 10, 11, 12] z z_476 := oz_475.r (by decide) ez_476
                            have xz_476 : RM z_476 := by rw [ez_476]; exact xz_475
                            have f_508 : 0 ≤ (gI z_476 12).toInt ∧ (gI z_476 12).toInt ≤ 16 := tz_476.1 12
                            have q_509 := (((((((show (gI z_476 12).toInt = (gI z_475 12).toInt by rw [ez_476]; rfl)).trans (show (gI z_475 12).toInt = (gI z_474 12).toInt by rw [ez_475]; rfl)).trans (show (gI z_474 12).toInt = (gI z_473 12).toInt by rw [ez_474]; rfl)).trans (show (gI z_473 12).toInt = (gI z_472 12).toInt by rw [ez_473]; rfl)).trans (show (gI z_472 12).toInt = (gI z_471 12).toInt by rw [ez_472]; rfl)).trans (show (gI z_471 12).toInt = (gI z1 12).toInt by rw [ez_471]; rfl)).trans (show (gI z1 12).toInt = (gI z 12).toInt by rw [ez1]; rfl)
                            refine ⟨vin (a_add (a_mul (show (4 : Int32).toInt = 4 by decide) rfl (by omega) (by omega)) (show (2 : Int32).toInt = 2 by decide) (by omega) (by omega)) (by omega) (by omega), ?_⟩
                            intro z_477 ez_477
                            have tz_477 : TM z_477 := by rw [ez_477]; exact Ty_wR tz_476 trivial
                            have oz_477 : Same [0, 1, 12] [6, 7, 8, 9, 10, 11, 12] z z_477 := oz_476.r (by decide) ez_477
                            have xz_477 : RM z_477 := by rw [ez_477]; exact xz_476
                            have f_510 : 0 ≤ (gI z_477 12).toInt ∧ (gI z_477 12).toInt ≤ 16 := tz_477.1 12
                            have q_511 := ((((((((show (gI z_477 12).toInt = (gI z_476 12).toInt by rw [ez_477]; rfl)).trans (show (gI z_476 12).toInt = (gI z_475 12).toInt by rw [ez_476]; rfl)).trans (show (gI z_475 12).toInt = (gI z_474 12).toInt by rw [ez_475]; rfl)).trans (show (gI z_474 12).toInt = (gI z_473 12).toInt by rw [ez_474]; rfl)).trans (show (gI z_473 12).toInt = (gI z_472 12).toInt by rw [ez_473]; rfl)).trans (show (gI z_472 12).toInt = (gI z_471 12).toInt by rw [ez_472]; rfl)).trans (show (gI z_471 12).toInt = (gI z1 12).toInt by rw [ez_471]; rfl)).trans (show (gI z1 12).toInt = (gI z 12).toInt by rw [ez1]; rfl)
                            refine ⟨vin (a_add (a_mul (show (4 : Int32).toInt = 4 by decide) rfl (by omega) (by omega)) (show (3 : Int32).toInt = 3 by decide) (by omega) (by omega)) (by omega) (by omega), ?_⟩
                            intro z_478 ez_478
                            have tz_478 : TM z_478 := by rw [ez_478]; exact Ty_wR tz_477 trivial
                            have oz_478 : Same [0, 1, 12] [6, 7, 8, 9, 10, 11, 12] z z_478 := oz_477.r (by decide) ez_478
                            have xz_478 : RM z_478 := by rw [ez_478]; exact xz_477
                            have f_512 : 0 ≤ (gI z_478 12).toInt ∧ (gI z_478 12).toInt ≤ 16 := tz_478.1 12
                            have q_513 := (((((((((show (gI z_478 12).toInt = (gI z_477 12).toInt by rw [ez_478]; rfl)).trans (show (gI z_477 12).toInt = (gI z_476 12).toInt by rw [ez_477]; rfl)).trans (show (gI z_476 12).toInt = (gI z_475 12).toInt by rw [ez_476]; rfl)).trans (show (gI z_475 12).toInt = (gI z_474 12).toInt by rw [ez_475]; rfl)).trans (show (gI z_474 12).toInt = (gI z_473 12).toInt by rw [ez_474]; rfl)).trans (show (gI z_473 12).toInt = (gI z_472 12).toInt by rw [ez_473]; rfl)).trans (show (gI z_472 12).toInt = (gI z_471 12).toInt by rw [ez_472]; rfl)).trans (show (gI z_471 12).toInt = (gI z1 12).toInt by rw [ez_471]; rfl)).trans (show (gI z1 12).toInt = (gI z 12).toInt by rw [ez1]; rfl)
                            refine ⟨vin rfl (by omega) (by omega), ?_⟩
                            intro z_479 ez_479
                            have tz_479 : TM z_479 := by rw [ez_479]; exact Ty_wR tz_478 trivial
                            have oz_479 : Same [0, 1, 12] [6, 7, 8, 9, 10, 11, 12] z z_479 := oz_478.r (by decide) ez_479
                            have xz_479 : RM z_479 := by rw [ez_479]; exact xz_478
                            have f_514 : 0 ≤ (gI z_479 12).toInt ∧ (gI z_479 12).toInt ≤ 16 := tz_479.1 12
                            have q_515 := ((((((((((show (gI z_479 12).toInt = (gI z_478 12).toInt by rw [ez_479]; rfl)).trans (show (gI z_478 12).toInt = (gI z_477 12).toInt by rw [ez_478]; rfl)).trans (show (gI z_477 12).toInt = (gI z_476 12).toInt by rw [ez_477]; rfl)).trans (show (gI z_476 12).toInt = (gI z_475 12).toInt by rw [ez_476]; rfl)).trans (show (gI z_475 12).toInt = (gI z_474 12).toInt by rw [ez_475]; rfl)).trans (show (gI z_474 12).toInt = (gI z_473 12).toInt by rw [ez_474]; rfl)).trans (show (gI z_473 12).toInt = (gI z_472 12).toInt by rw [ez_473]; rfl)).trans (show (gI z_472 12).toInt = (gI z_471 12).toInt by rw [ez_472]; rfl)).trans (show (gI z_471 12).toInt = (gI z1 12).toInt by rw [ez_471]; rfl)).trans (show (gI z1 12).toInt = (gI z 12).toInt by rw [ez1]; rfl)
                            refine ⟨vin rfl (by omega) (by omega), ?_⟩
                            intro z_480 ez_480
                            have tz_480 : TM z_480 := by rw [ez_480]; exact Ty_wR tz_479 trivial
                            have oz_480 : Same [0, 1, 12] [6, 7, 8, 9, 10, 11, 12] z z_480 := oz_479.r (by decide) ez_480
                            have xz_480 : RM z_480 := by rw [ez_480]; exact xz_479
                            intro z_481 ez_481
                            have f_516 : 0 ≤ (gI z_480 12).toInt ∧ (gI z_480 12).toInt ≤ 16 := tz_480.1 12
                            have q_517 := (((((((((((show (gI z_480 12).toInt = (gI z_479 12).toInt by rw [ez_480]; rfl)).trans (show (gI z_479 12).toInt = (gI z_478 12).toInt by rw [ez_479]; rfl)).trans (show (gI z_478 12).toInt = (gI z_477 12).toInt by rw [ez_478]; rfl)).trans (show (gI z_477 12).toInt = (gI z_476 12).toInt by rw [ez_477]; rfl)).trans (show (gI z_476 12).toInt = (gI z_475 12).toInt by rw [ez_476]; rfl)).trans (show (gI z_475 12).toInt = (gI z_474 12).toInt by rw [ez_475]; rfl)).trans (show (gI z_474 12).toInt = (gI z_473 12).toInt by rw [ez_474]; rfl)).trans (show (gI z_473 12).toInt = (gI z_472 12).toInt by rw [ez_473]; rfl)).trans (show (gI z_472 12).toInt = (gI z_471 12).toInt by rw [ez_472]; rfl)).trans (show (gI z_471 12).toInt = (gI z1 12).toInt by rw [ez_471]; rfl)).trans (show (gI z1 12).toInt = (gI z 12).toInt by rw [ez1]; rfl)
                            have tz_481 : TM z_481 := by rw [ez_481]; exact Ty_wI tz_480 (show 0 ≤ ((gI z_480 12) + (1 : Int32)).toInt ∧ ((gI z_480 12) + (1 : Int32)).toInt ≤ 16 from by rw [(a_add rfl (show (1 : Int32).toInt = 1 by decide) (by omega) (by omega))]; omega)
                            have oz_481 : Same [0, 1, 12] [6, 7, 8, 9, 10, 11, 12] z z_481 := oz_480.i (by decide) ez_481
                            have xz_481 : RM z_481 := by rw [ez_481]; exact xz_480
                            have f_518 : 0 ≤ (gI z_481 12).toInt ∧ (gI z_481 12).toInt ≤ 16 := tz_481.1 12
                            have q_519 := (show (gI z_481 12).toInt = ((gI z_480 12) + (1 : Int32)).toInt by rw [ez_481]; rfl)
                            have q_520 : ((gI z_480 12) + (1 : Int32)).toInt = ((gI z_480 12).toInt + (1)) := (a_add rfl (show (1 : Int32).toInt = 1 by decide) (by omega) (by omega))
                            have g_521 : ((gI z_481 12) - (1 : Int32)).toInt = ((gI z_481 12).toInt - (1)) := (a_sub rfl (show (1 : Int32).toInt = 1 by decide) (by omega) (by omega))
                            refine s_X9_told ((gI z_481 12) - ((1 : Int32))) z_481 _ tz_481  (fun r_482 z_483 tz_483 o_523 hp_522 => ?_)
                            have oz_483 : Same [0, 1, 12] [6, 7, 8, 9, 10, 11, 12] z z_483 := oz_481.tr o_523 (by decide) (by decide)
                            have xz_483 : RM z_483 := RM_same xz_481 o_523 (by decide) (by decide)
                            exact hk r_482 z_483 tz_483 oz_483 xz_483 trivial
                          · skip
                            have f_524 : 0 ≤ (gI z1 12).toInt ∧ (gI z1 12).toInt ≤ 16 := tz1.1 12
                            have q_525 := (show (gI z1 12).toInt = (gI z 12).toInt by rw [ez1]; rfl)
                            have f_526 : 0 ≤ (gI z 12).toInt ∧ (gI z 12).toInt ≤ 16 := ht.1 12
                            have i_527 := i_eq rfl (show (16 : Int32).toInt = 16 by decide) c_470
                            have g_528 : (-5 : Int32).toInt = -5 := by decide
                            refine s_X9_told ((-5 : Int32)) z1 _ tz1  (fun r_484 z_485 tz_485 o_530 hp_529 => ?_)
                            have oz_485 : Same [0, 1, 12] [6, 7, 8, 9, 10, 11, 12] z z_485 := oz1.tr o_530 (by decide) (by decide)
                            have xz_485 : RM z_485 := RM_same xz1 o_530 (by decide) (by decide)
                            exact hk r_484 z_485 tz_485 oz_485 xz_485 trivial
                        · subst er_468
                          have f_531 : 0 ≤ (gI z1 8).toInt ∧ (gI z1 8).toInt ≤ 4 := tz1.1 8
                          have q_532 := (show (gI z1 8).toInt = (gI z 8).toInt by rw [ez1]; rfl)
                          have f_533 : 0 ≤ (gI z 8).toInt ∧ (gI z 8).toInt ≤ 4 := ht.1 8
                          refine ⟨fun hc => absurd hc (by decide), fun _ => ?_⟩
                          have g_534 : (-2 : Int32).toInt = -2 := by decide
                          refine s_X9_told ((-2 : Int32)) z1 _ tz1  (fun r_486 z_487 tz_487 o_536 hp_535 => ?_)
                          have oz_487 : Same [0, 1, 12] [6, 7, 8, 9, 10, 11, 12] z z_487 := oz1.tr o_536 (by decide) (by decide)
                          have xz_487 : RM z_487 := RM_same xz1 o_536 (by decide) (by decide)
                          exact hk r_486 z_487 tz_487 oz_487 xz_487 trivial
                      · subst er_388
                        refine ⟨fun _ => ?_, fun hc => absurd (show ((0 : Int32)) = ((0 : Int32)) by decide) hc⟩
                        refine hK_191  ?_
                        refine hK_190 ((0 : Int32)) ?_
                        refine ⟨fun hc => absurd hc (by decide), fun _ => ?_⟩
                        have g_560 : (-1 : Int32).toInt = -1 := by decide
                        refine s_X9_told ((-1 : Int32)) z1 _ tz1  (fun r_558 z_559 tz_559 o_562 hp_561 => ?_)
                        have oz_559 : Same [0, 1, 12] [6, 7, 8, 9, 10, 11, 12] z z_559 := oz1.tr o_562 (by decide) (by decide)
                        have xz_559 : RM z_559 := RM_same xz1 o_562 (by decide) (by decide)
                        exact hk r_558 z_559 tz_559 oz_559 xz_559 trivial
                  · subst er_200
                    refine ⟨fun _ => ?_, fun hc => absurd (show ((0 : Int32)) = ((0 : Int32)) by decide) hc⟩
                    refine hK_191  ?_
                    refine hK_190 ((0 : Int32)) ?_
                    refine ⟨fun hc => absurd hc (by decide), fun _ => ?_⟩
                    have g_586 : (-1 : Int32).toInt = -1 := by decide
                    refine s_X9_told ((-1 : Int32)) z1 _ tz1  (fun r_584 z_585 tz_585 o_588 hp_587 => ?_)
                    have oz_585 : Same [0, 1, 12] [6, 7, 8, 9, 10, 11, 12] z z_585 := oz1.tr o_588 (by decide) (by decide)
                    have xz_585 : RM z_585 := RM_same xz1 o_588 (by decide) (by decide)
                    exact hk r_584 z_585 tz_585 oz_585 xz_585 trivial
              · skip
                have i_589 := i_nlt rfl (show (2 : Int32).toInt = 2 by decide) c_187
                have g_590 : (Int32.toInt64 b6).toInt = b6.toInt := (a_wide rfl)
                have g_591 : (0 : Int64).toInt = 0 := by decide
                have g_592 : (5000 : Int64).toInt = 5000 := by decide
                refine s_X9_in (Int32.toInt64 b6) ((0 : Int64)) ((5000 : Int64)) z1 _ tz1  (fun r_188 hp_593 => ?_)
                rcases hp_593 with ⟨er_188, hp_593⟩ | ⟨er_188, hp_593⟩
                · subst er_188
                  refine ⟨fun hc => absurd hc (by decide), fun _ => ?_⟩
                  refine hK_192  ?_
                  intro K_594 hK_602
                  refine ⟨fun c_599 => ?_, fun c_599 => ?_⟩
                  · skip
                    have i_603 := i_lt rfl (show (3 : Int32).toInt = 3 by decide) c_599
                    refine hK_602  ?_
                    intro K_604 hK_608
                    refine ⟨fun c_605 => ?_, fun c_605 => ?_⟩
                    · skip
                      have i_609 := i_lt rfl (show (4 : Int32).toInt = 4 by decide) c_605
                      refine hK_608  ?_
                      refine hK_190 ((1 : Int32)) ?_
                      refine ⟨fun _ => ?_, fun hc => absurd hc (by decide)⟩
                      refine s_X9_isHome b1 z1 _ tz1  (fun r_611 hp_633 => ?_)
                      rcases hp_633 with ⟨er_611, hp_633⟩ | ⟨er_611, hp_633⟩
                      · subst er_611
                        have f_634 : 0 ≤ (gI z1 8).toInt ∧ (gI z1 8).toInt ≤ 4 := tz1.1 8
                        have q_635 := (show (gI z1 8).toInt = (gI z 8).toInt by rw [ez1]; rfl)
                        have f_636 : 0 ≤ (gI z 8).toInt ∧ (gI z 8).toInt ≤ 4 := ht.1 8
                        refine ⟨fun _ => ?_, fun hc => absurd hc (by decide)⟩
                        refine ⟨fun c_613 => ?_, fun c_613 => ?_⟩
                        · skip
                          have f_637 : 0 ≤ (gI z1 12).toInt ∧ (gI z1 12).toInt ≤ 16 := tz1.1 12
                          have q_638 := (show (gI z1 12).toInt = (gI z 12).toInt by rw [ez1]; rfl)
                          have f_639 : 0 ≤ (gI z 12).toInt ∧ (gI z 12).toInt ≤ 16 := ht.1 12
                          have i_640 := i_ne rfl (show (16 : Int32).toInt = 16 by decide) c_613
                          refine ⟨vin rfl (by omega) (by omega), ?_⟩
                          intro z_614 ez_614
                          have tz_614 : TM z_614 := by rw [ez_614]; exact Ty_wR tz1 (show 0 ≤ b1.toInt ∧ b1.toInt ≤ 3 from by omega)
                          have oz_614 : Same [0, 1, 12] [6, 7, 8, 9, 10, 11, 12] z z_614 := oz1.r (by decide) ez_614
                          have xz_614 : RM z_614 := by rw [ez_614]; exact xz1
                          have f_641 : 0 ≤ (gI z_614 12).toInt ∧ (gI z_614 12).toInt ≤ 16 := tz_614.1 12
                          have q_642 := ((show (gI z_614 12).toInt = (gI z1 12).toInt by rw [ez_614]; rfl)).trans (show (gI z1 12).toInt = (gI z 12).toInt by rw [ez1]; rfl)
                          refine ⟨vin rfl (by omega) (by omega), ?_⟩
                          intro z_615 ez_615
                          have tz_615 : TM z_615 := by rw [ez_615]; exact Ty_wR tz_614 (show 0 ≤ b2.toInt ∧ b2.toInt ≤ 167 from by omega)
                          have oz_615 : Same [0, 1, 12] [6, 7, 8, 9, 10, 11, 12] z z_615 := oz_614.r (by decide) ez_615
                          have f_643 : 0 ≤ (gI z_615 12).toInt ∧ (gI z_615 12).toInt ≤ 16 := tz_615.1 12
                          have q_644 := (((show (gI z_615 12).toInt = (gI z_614 12).toInt by rw [ez_615]; rfl)).trans (show (gI z_614 12).toInt = (gI z1 12).toInt by rw [ez_614]; rfl)).trans (show (gI z1 12).toInt = (gI z 12).toInt by rw [ez1]; rfl)
                          refine ⟨vin rfl (by omega) (by omega), ?_⟩
                          intro z_616 ez_616
                          have tz_616 : TM z_616 := by rw [ez_616]; exact Ty_wR tz_615 (show 0 ≤ b3.toInt ∧ b3.toInt ≤ 167 from by omega)
                          have oz_616 : Same [0, 1, 12] [6, 7, 8, 9, 10, 11, 12] z z_616 := oz_615.r (by decide) ez_616
                          have xz_616 : RM z_616 := RM_job xz_614 ez_615 ez_616 (by rw [ez_615]; rfl) (by omega)
                          have f_645 : 0 ≤ (gI z_616 12).toInt ∧ (gI z_616 12).toInt ≤ 16 := tz_616.1 12
                          have q_646 := ((((show (gI z_616 12).toInt = (gI z_615 12).toInt by rw [ez_616]; rfl)).trans (show (gI z_615 12).toInt = (gI z_614 12).toInt by rw [ez_615]; rfl)).trans (show (gI z_614 12).toInt = (gI z1 12).toInt by rw [ez_614]; rfl)).trans (show (gI z1 12).toInt = (gI z 12).toInt by rw [ez1]; rfl)
                          refine ⟨vin rfl (by omega) (by omega), ?_⟩
                          intro z_617 ez_617
                          have tz_617 : TM z_617 := by rw [ez_617]; exact Ty_wR tz_616 (show 0 ≤ b4.toInt ∧ b4.toInt ≤ 4 from by omega)
                          have oz_617 : Same [0, 1, 12] [6, 7, 8, 9, 10, 11, 12] z z_617 := oz_616.r (by decide) ez_617
                          have xz_617 : RM z_617 := by rw [ez_617]; exact xz_616
                          have f_647 : 0 ≤ (gI z_617 12).toInt ∧ (gI z_617 12).toInt ≤ 16 := tz_617.1 12
                          have q_648 := (((((show (gI z_617 12).toInt = (gI z_616 12).toInt by rw [ez_617]; rfl)).trans (show (gI z_616 12).toInt = (gI z_615 12).toInt by rw [ez_616]; rfl)).trans (show (gI z_615 12).toInt = (gI z_614 12).toInt by rw [ez_615]; rfl)).trans (show (gI z_614 12).toInt = (gI z1 12).toInt by rw [ez_614]; rfl)).trans (show (gI z1 12).toInt = (gI z 12).toInt by rw [ez1]; rfl)
                          refine ⟨vin (a_mul (show (4 : Int32).toInt = 4 by decide) rfl (by omega) (by omega)) (by omega) (by omega), ?_⟩
                          intro z_618 ez_618
                          have tz_618 : TM z_618 := by rw [ez_618]; exact Ty_wR tz_617 trivial
                          have oz_618 : Same [0, 1, 12] [6, 7, 8, 9, 10, 11, 12] z z_618 := oz_617.r (by decide) ez_618
                          have xz_618 : RM z_618 := by rw [ez_618]; exact xz_617
                          have f_649 : 0 ≤ (gI z_618 12).toInt ∧ (gI z_618 12).toInt ≤ 16 := tz_618.1 12
                          have q_650 := ((((((show (gI z_618 12).toInt = (gI z_617 12).toInt by rw [ez_618]; rfl)).trans (show (gI z_617 12).toInt = (gI z_616 12).toInt by rw [ez_617]; rfl)).trans (show (gI z_616 12).toInt = (gI z_615 12).toInt by rw [ez_616]; rfl)).trans (show (gI z_615 12).toInt = (gI z_614 12).toInt by rw [ez_615]; rfl)).trans (show (gI z_614 12).toInt = (gI z1 12).toInt by rw [ez_614]; rfl)).trans (show (gI z1 12).toInt = (gI z 12).toInt by rw [ez1]; rfl)
                          refine ⟨vin (a_add (a_mul (show (4 : Int32).toInt = 4 by decide) rfl (by omega) (by omega)) (show (1 : Int32).toInt = 1 by decide) (by omega) (by omega)) (by omega) (by omega), ?_⟩
                          intro z_619 ez_619
                          have tz_619 : TM z_619 := by rw [ez_619]; exact Ty_wR tz_618 trivial
                          have oz_619 : Same [0, 1, 12] [6, 7, 8, 9, 10, 11, 12] z z_619 := oz_618.r (by decide) ez_619
                          have xz_619 : RM z_619 := by rw [ez_619]; exact xz_618
                          have f_651 : 0 ≤ (gI z_619 12).toInt ∧ (gI z_619 12).toInt ≤ 16 := tz_619.1 12
                          have q_652 := (((((((show (gI z_619 12).toInt = (gI z_618 12).toInt by rw [ez_619]; rfl)).trans (show (gI z_618 12).toInt = (gI z_617 12).toInt by rw [ez_618]; rfl)).trans (show (gI z_617 12).toInt = (gI z_616 12).toInt by rw [ez_617]; rfl)).trans (show (gI z_616 12).toInt = (gI z_615 12).toInt by rw [ez_616]; rfl)).trans (show (gI z_615 12).toInt = (gI z_614 12).toInt by rw [ez_615]; rfl)).trans (show (gI z_614 12).toInt = (gI z1 12).toInt by rw [ez_614]; rfl)).trans (show (gI z1 12).toInt = (gI z 12).toInt by rw [ez1]; rfl)
                          refine ⟨vin (a_add (a_mul (show (4 : Int32).toInt = 4 by decide) rfl (by omega) (by omega)) (show (2 : Int32).toInt = 2 by decide) (by omega) (by omega)) (by omega) (by omega), ?_⟩
                          intro z_620 ez_620
                          have tz_620 : TM z_620 := by rw [ez_620]; exact Ty_wR tz_619 trivial
                          have oz_620 : Same [0, 1, 12] [6, 7, 8, 9, 10, 11, 12] z z_620 := oz_619.r (by decide) ez_620
                          have xz_620 : RM z_620 := by rw [ez_620]; exact xz_619
                          have f_653 : 0 ≤ (gI z_620 12).toInt ∧ (gI z_620 12).toInt ≤ 16 := tz_620.1 12
                          have q_654 := ((((((((show (gI z_620 12).toInt = (gI z_619 12).toInt by rw [ez_620]; rfl)).trans (show (gI z_619 12).toInt = (gI z_618 12).toInt by rw [ez_619]; rfl)).trans (show (gI z_618 12).toInt = (gI z_617 12).toInt by rw [ez_618]; rfl)).trans (show (gI z_617 12).toInt = (gI z_616 12).toInt by rw [ez_617]; rfl)).trans (show (gI z_616 12).toInt = (gI z_615 12).toInt by rw [ez_616]; rfl)).trans (show (gI z_615 12).toInt = (gI z_614 12).toInt by rw [ez_615]; rfl)).trans (show (gI z_614 12).toInt = (gI z1 12).toInt by rw [ez_614]; rfl)).trans (show (gI z1 12).toInt = (gI z 12).toInt by rw [ez1]; rfl)
                          refine ⟨vin (a_add (a_mul (show (4 : Int32).toInt = 4 by decide) rfl (by omega) (by omega)) (show (3 : Int32).toInt = 3 by decide) (by omega) (by omega)) (by omega) (by omega), ?_⟩
                          intro z_621 ez_621
                          have tz_621 : TM z_621 := by rw [ez_621]; exact Ty_wR tz_620 trivial
                          have oz_621 : Same [0, 1, 12] [6, 7, 8, 9, 10, 11, 12] z z_621 := oz_620.r (by decide) ez_621
                          have xz_621 : RM z_621 := by rw [ez_621]; exact xz_620
                          have f_655 : 0 ≤ (gI z_621 12).toInt ∧ (gI z_621 12).toInt ≤ 16 := tz_621.1 12
                          have q_656 := (((((((((show (gI z_621 12).toInt = (gI z_620 12).toInt by rw [ez_621]; rfl)).trans (show (gI z_620 12).toInt = (gI z_619 12).toInt by rw [ez_620]; rfl)).trans (show (gI z_619 12).toInt = (gI z_618 12).toInt by rw [ez_619]; rfl)).trans (show (gI z_618 12).toInt = (gI z_617 12).toInt by rw [ez_618]; rfl)).trans (show (gI z_617 12).toInt = (gI z_616 12).toInt by rw [ez_617]; rfl)).trans (show (gI z_616 12).toInt = (gI z_615 12).toInt by rw [ez_616]; rfl)).trans (show (gI z_615 12).toInt = (gI z_614 12).toInt by rw [ez_615]; rfl)).trans (show (gI z_614 12).toInt = (gI z1 12).toInt by rw [ez_614]; rfl)).trans (show (gI z1 12).toInt = (gI z 12).toInt by rw [ez1]; rfl)
                          refine ⟨vin rfl (by omega) (by omega), ?_⟩
                          intro z_622 ez_622
                          have tz_622 : TM z_622 := by rw [ez_622]; exact Ty_wR tz_621 trivial
                          have oz_622 : Same [0, 1, 12] [6, 7, 8, 9, 10, 11, 12] z z_622 := oz_621.r (by decide) ez_622
                          have xz_622 : RM z_622 := by rw [ez_622]; exact xz_621
                          have f_657 : 0 ≤ (gI z_622 12).toInt ∧ (gI z_622 12).toInt ≤ 16 := tz_622.1 12
                          have q_658 := ((((((((((show (gI z_622 12).toInt = (gI z_621 12).toInt by rw [ez_622]; rfl)).trans (show (gI z_621 12).toInt = (gI z_620 12).toInt by rw [ez_621]; rfl)).trans (show (gI z_620 12).toInt = (gI z_619 12).toInt by rw [ez_620]; rfl)).trans (show (gI z_619 12).toInt = (gI z_618 12).toInt by rw [ez_619]; rfl)).trans (show (gI z_618 12).toInt = (gI z_617 12).toInt by rw [ez_618]; rfl)).trans (show (gI z_617 12).toInt = (gI z_616 12).toInt by rw [ez_617]; rfl)).trans (show (gI z_616 12).toInt = (gI z_615 12).toInt by rw [ez_616]; rfl)).trans (show (gI z_615 12).toInt = (gI z_614 12).toInt by rw [ez_615]; rfl)).trans (show (gI z_614 12).toInt = (gI z1 12).toInt by rw [ez_614]; rfl)).trans (show (gI z1 12).toInt = (gI z 12).toInt by rw [ez1]; rfl)
                          refine ⟨vin rfl (by omega) (by omega), ?_⟩
                          intro z_623 ez_623
                          have tz_623 : TM z_623 := by rw [ez_623]; exact Ty_wR tz_622 trivial
                          have oz_623 : Same [0, 1, 12] [6, 7, 8, 9, 10, 11, 12] z z_623 := oz_622.r (by decide) ez_623
                          have xz_623 : RM z_623 := by rw [ez_623]; exact xz_622
                          intro z_624 ez_624
                          have f_659 : 0 ≤ (gI z_623 12).toInt ∧ (gI z_623 12).toInt ≤ 16 := tz_623.1 12
                          have q_660 := (((((((((((show (gI z_623 12).toInt = (gI z_622 12).toInt by rw [ez_623]; rfl)).trans (show (gI z_622 12).toInt = (gI z_621 12).toInt by rw [ez_622]; rfl)).trans (show (gI z_621 12).toInt = (gI z_620 12).toInt by rw [ez_621]; rfl)).trans (show (gI z_620 12).toInt = (gI z_619 12).toInt by rw [ez_620]; rfl)).trans (show (gI z_619 12).toInt = (gI z_618 12).toInt by rw [ez_619]; rfl)).trans (show (gI z_618 12).toInt = (gI z_617 12).toInt by rw [ez_618]; rfl)).trans (show (gI z_617 12).toInt = (gI z_616 12).toInt by rw [ez_617]; rfl)).trans (show (gI z_616 12).toInt = (gI z_615 12).toInt by rw [ez_616]; rfl)).trans (show (gI z_615 12).toInt = (gI z_614 12).toInt by rw [ez_615]; rfl)).trans (show (gI z_614 12).toInt = (gI z1 12).toInt by rw [ez_614]; rfl)).trans (show (gI z1 12).toInt = (gI z 12).toInt by rw [ez1]; rfl)
                          have tz_624 : TM z_624 := by rw [ez_624]; exact Ty_wI tz_623 (show 0 ≤ ((gI z_623 12) + (1 : Int32)).toInt ∧ ((gI z_623 12) + (1 : Int32)).toInt ≤ 16 from by rw [(a_add rfl (show (1 : Int32).toInt = 1 by decide) (by omega) (by omega))]; omega)
                          have oz_624 : Same [0, 1, 12] [6, 7, 8, 9, 10, 11, 12] z z_624 := oz_623.i (by decide) ez_624
                          have xz_624 : RM z_624 := by rw [ez_624]; exact xz_623
                          have f_661 : 0 ≤ (gI z_624 12).toInt ∧ (gI z_624 12).toInt ≤ 16 := tz_624.1 12
                          have q_662 := (show (gI z_624 12).toInt = ((gI z_623 12) + (1 : Int32)).toInt by rw [ez_624]; rfl)
                          have q_663 : ((gI z_623 12) + (1 : Int32)).toInt = ((gI z_623 12).toInt + (1)) := (a_add rfl (show (1 : Int32).toInt = 1 by decide) (by omega) (by omega))
                          have g_664 : ((gI z_624 12) - (1 : Int32)).toInt = ((gI z_624 12).toInt - (1)) := (a_sub rfl (show (1 : Int32).toInt = 1 by decide) (by omega) (by omega))
                          refine s_X9_told ((gI z_624 12) - ((1 : Int32))) z_624 _ tz_624  (fun r_625 z_626 tz_626 o_666 hp_665 => ?_)
                          have oz_626 : Same [0, 1, 12] [6, 7, 8, 9, 10, 11, 12] z z_626 := oz_624.tr o_666 (by decide) (by decide)
                          have xz_626 : RM z_626 := RM_same xz_624 o_666 (by decide) (by decide)
                          exact hk r_625 z_626 tz_626 oz_626 xz_626 trivial
                        · skip
                          have f_667 : 0 ≤ (gI z1 12).toInt ∧ (gI z1 12).toInt ≤ 16 := tz1.1 12
                          have q_668 := (show (gI z1 12).toInt = (gI z 12).toInt by rw [ez1]; rfl)
                          have f_669 : 0 ≤ (gI z 12).toInt ∧ (gI z 12).toInt ≤ 16 := ht.1 12
                          have i_670 := i_eq rfl (show (16 : Int32).toInt = 16 by decide) c_613
                          have g_671 : (-5 : Int32).toInt = -5 := by decide
                          refine s_X9_told ((-5 : Int32)) z1 _ tz1  (fun r_627 z_628 tz_628 o_673 hp_672 => ?_)
                          have oz_628 : Same [0, 1, 12] [6, 7, 8, 9, 10, 11, 12] z z_628 := oz1.tr o_673 (by decide) (by decide)
                          have xz_628 : RM z_628 := RM_same xz1 o_673 (by decide) (by decide)
                          exact hk r_627 z_628 tz_628 oz_628 xz_628 trivial
                      · subst er_611
                        have f_674 : 0 ≤ (gI z1 8).toInt ∧ (gI z1 8).toInt ≤ 4 := tz1.1 8
                        have q_675 := (show (gI z1 8).toInt = (gI z 8).toInt by rw [ez1]; rfl)
                        have f_676 : 0 ≤ (gI z 8).toInt ∧ (gI z 8).toInt ≤ 4 := ht.1 8
                        refine ⟨fun hc => absurd hc (by decide), fun _ => ?_⟩
                        have g_677 : (-2 : Int32).toInt = -2 := by decide
                        refine s_X9_told ((-2 : Int32)) z1 _ tz1  (fun r_629 z_630 tz_630 o_679 hp_678 => ?_)
                        have oz_630 : Same [0, 1, 12] [6, 7, 8, 9, 10, 11, 12] z z_630 := oz1.tr o_679 (by decide) (by decide)
                        have xz_630 : RM z_630 := RM_same xz1 o_679 (by decide) (by decide)
                        exact hk r_629 z_630 tz_630 oz_630 xz_630 trivial
                    · skip
                      have i_680 := i_nlt rfl (show (4 : Int32).toInt = 4 by decide) c_605
                      have g_681 : (Int32.toInt64 b8).toInt = b8.toInt := (a_wide rfl)
                      have g_682 : (0 : Int64).toInt = 0 := by decide
                      have g_683 : (5000 : Int64).toInt = 5000 := by decide
                      refine s_X9_in (Int32.toInt64 b8) ((0 : Int64)) ((5000 : Int64)) z1 _ tz1  (fun r_606 hp_684 => ?_)
                      rcases hp_684 with ⟨er_606, hp_684⟩ | ⟨er_606, hp_684⟩
                      · subst er_606
                        refine ⟨fun hc => absurd hc (by decide), fun _ => ?_⟩
                        refine hK_608  ?_
                        refine hK_190 ((1 : Int32)) ?_
                        refine ⟨fun _ => ?_, fun hc => absurd hc (by decide)⟩
                        refine s_X9_isHome b1 z1 _ tz1  (fun r_686 hp_708 => ?_)
                        rcases hp_708 with ⟨er_686, hp_708⟩ | ⟨er_686, hp_708⟩
                        · subst er_686
                          have f_709 : 0 ≤ (gI z1 8).toInt ∧ (gI z1 8).toInt ≤ 4 := tz1.1 8
                          have q_710 := (show (gI z1 8).toInt = (gI z 8).toInt by rw [ez1]; rfl)
                          have f_711 : 0 ≤ (gI z 8).toInt ∧ (gI z 8).toInt ≤ 4 := ht.1 8
                          refine ⟨fun _ => ?_, fun hc => absurd hc (by decide)⟩
                          refine ⟨fun c_688 => ?_, fun c_688 => ?_⟩
                          · skip
                            have f_712 : 0 ≤ (gI z1 12).toInt ∧ (gI z1 12).toInt ≤ 16 := tz1.1 12
                            have q_713 := (show (gI z1 12).toInt = (gI z 12).toInt by rw [ez1]; rfl)
                            have f_714 : 0 ≤ (gI z 12).toInt ∧ (gI z 12).toInt ≤ 16 := ht.1 12
                            have i_715 := i_ne rfl (show (16 : Int32).toInt = 16 by decide) c_688
                            refine ⟨vin rfl (by omega) (by omega), ?_⟩
                            intro z_689 ez_689
                            have tz_689 : TM z_689 := by rw [ez_689]; exact Ty_wR tz1 (show 0 ≤ b1.toInt ∧ b1.toInt ≤ 3 from by omega)
                            have oz_689 : Same [0, 1, 12] [6, 7, 8, 9, 10, 11, 12] z z_689 := oz1.r (by decide) ez_689
                            have xz_689 : RM z_689 := by rw [ez_689]; exact xz1
                            have f_716 : 0 ≤ (gI z_689 12).toInt ∧ (gI z_689 12).toInt ≤ 16 := tz_689.1 12
                            have q_717 := ((show (gI z_689 12).toInt = (gI z1 12).toInt by rw [ez_689]; rfl)).trans (show (gI z1 12).toInt = (gI z 12).toInt by rw [ez1]; rfl)
                            refine ⟨vin rfl (by omega) (by omega), ?_⟩
                            intro z_690 ez_690
                            have tz_690 : TM z_690 := by rw [ez_690]; exact Ty_wR tz_689 (show 0 ≤ b2.toInt ∧ b2.toInt ≤ 167 from by omega)
                            have oz_690 : Same [0, 1, 12] [6, 7, 8, 9, 10, 11, 12] z z_690 := oz_689.r (by decide) ez_690
                            have f_718 : 0 ≤ (gI z_690 12).toInt ∧ (gI z_690 12).toInt ≤ 16 := tz_690.1 12
                            have q_719 := (((show (gI z_690 12).toInt = (gI z_689 12).toInt by rw [ez_690]; rfl)).trans (show (gI z_689 12).toInt = (gI z1 12).toInt by rw [ez_689]; rfl)).trans (show (gI z1 12).toInt = (gI z 12).toInt by rw [ez1]; rfl)
                            refine ⟨vin rfl (by omega) (by omega), ?_⟩
                            intro z_691 ez_691
                            have tz_691 : TM z_691 := by rw [ez_691]; exact Ty_wR tz_690 (show 0 ≤ b3.toInt ∧ b3.toInt ≤ 167 from by omega)
                            have oz_691 : Same [0, 1, 12] [6, 7, 8, 9, 10, 11, 12] z z_691 := oz_690.r (by decide) ez_691
                            have xz_691 : RM z_691 := RM_job xz_689 ez_690 ez_691 (by rw [ez_690]; rfl) (by omega)
                            have f_720 : 0 ≤ (gI z_691 12).toInt ∧ (gI z_691 12).toInt ≤ 16 := tz_691.1 12
                            have q_721 := ((((show (gI z_691 12).toInt = (gI z_690 12).toInt by rw [ez_691]; rfl)).trans (show (gI z_690 12).toInt = (gI z_689 12).toInt by rw [ez_690]; rfl)).trans (show (gI z_689 12).toInt = (gI z1 12).toInt by rw [ez_689]; rfl)).trans (show (gI z1 12).toInt = (gI z 12).toInt by rw [ez1]; rfl)
                            refine ⟨vin rfl (by omega) (by omega), ?_⟩
                            intro z_692 ez_692
                            have tz_692 : TM z_692 := by rw [ez_692]; exact Ty_wR tz_691 (show 0 ≤ b4.toInt ∧ b4.toInt ≤ 4 from by omega)
                            have oz_692 : Same [0, 1, 12] [6, 7, 8, 9, 10, 11, 12] z z_692 := oz_691.r (by decide) ez_692
                            have xz_692 : RM z_692 := by rw [ez_692]; exact xz_691
                            have f_722 : 0 ≤ (gI z_692 12).toInt ∧ (gI z_692 12).toInt ≤ 16 := tz_692.1 12
                            have q_723 := (((((show (gI z_692 12).toInt = (gI z_691 12).toInt by rw [ez_692]; rfl)).trans (show (gI z_691 12).toInt = (gI z_690 12).toInt by rw [ez_691]; rfl)).trans (show (gI z_690 12).toInt = (gI z_689 12).toInt by rw [ez_690]; rfl)).trans (show (gI z_689 12).toInt = (gI z1 12).toInt by rw [ez_689]; rfl)).trans (show (gI z1 12).toInt = (gI z 12).toInt by rw [ez1]; rfl)
                            refine ⟨vin (a_mul (show (4 : Int32).toInt = 4 by decide) rfl (by omega) (by omega)) (by omega) (by omega), ?_⟩
                            intro z_693 ez_693
                            have tz_693 : TM z_693 := by rw [ez_693]; exact Ty_wR tz_692 trivial
                            have oz_693 : Same [0, 1, 12] [6, 7, 8, 9, 10, 11, 12] z z_693 := oz_692.r (by decide) ez_693
                            have xz_693 : RM z_693 := by rw [ez_693]; exact xz_692
                            have f_724 : 0 ≤ (gI z_693 12).toInt ∧ (gI z_693 12).toInt ≤ 16 := tz_693.1 12
                            have q_725 := ((((((show (gI z_693 12).toInt = (gI z_692 12).toInt by rw [ez_693]; rfl)).trans (show (gI z_692 12).toInt = (gI z_691 12).toInt by rw [ez_692]; rfl)).trans (show (gI z_691 12).toInt = (gI z_690 12).toInt by rw [ez_691]; rfl)).trans (show (gI z_690 12).toInt = (gI z_689 12).toInt by rw [ez_690]; rfl)).trans (show (gI z_689 12).toInt = (gI z1 12).toInt by rw [ez_689]; rfl)).trans (show (gI z1 12).toInt = (gI z 12).toInt by rw [ez1]; rfl)
                            refine ⟨vin (a_add (a_mul (show (4 : Int32).toInt = 4 by decide) rfl (by omega) (by omega)) (show (1 : Int32).toInt = 1 by decide) (by omega) (by omega)) (by omega) (by omega), ?_⟩
                            intro z_694 ez_694
                            have tz_694 : TM z_694 := by rw [ez_694]; exact Ty_wR tz_693 trivial
                            have oz_694 : Same [0, 1, 12] [6, 7, 8, 9, 10, 11, 12] z z_694 := oz_693.r (by decide) ez_694
                            have xz_694 : RM z_694 := by rw [ez_694]; exact xz_693
                            have f_726 : 0 ≤ (gI z_694 12).toInt ∧ (gI z_694 12).toInt ≤ 16 := tz_694.1 12
                            have q_727 := (((((((show (gI z_694 12).toInt = (gI z_693 12).toInt by rw [ez_694]; rfl)).trans (show (gI z_693 12).toInt = (gI z_692 12).toInt by rw [ez_693]; rfl)).trans (show (gI z_692 12).toInt = (gI z_691 12).toInt by rw [ez_692]; rfl)).trans (show (gI z_691 12).toInt = (gI z_690 12).toInt by rw [ez_691]; rfl)).trans (show (gI z_690 12).toInt = (gI z_689 12).toInt by rw [ez_690]; rfl)).trans (show (gI z_689 12).toInt = (gI z1 12).toInt by rw [ez_689]; rfl)).trans (show (gI z1 12).toInt = (gI z 12).toInt by rw [ez1]; rfl)
                            refine ⟨vin (a_add (a_mul (show (4 : Int32).toInt = 4 by decide) rfl (by omega) (by omega)) (show (2 : Int32).toInt = 2 by decide) (by omega) (by omega)) (by omega) (by omega), ?_⟩
                            intro z_695 ez_695
                            have tz_695 : TM z_695 := by rw [ez_695]; exact Ty_wR tz_694 trivial
                            have oz_695 : Same [0, 1, 12] [6, 7, 8, 9, 10, 11, 12] z z_695 := oz_694.r (by decide) ez_695
                            have xz_695 : RM z_695 := by rw [ez_695]; exact xz_694
                            have f_728 : 0 ≤ (gI z_695 12).toInt ∧ (gI z_695 12).toInt ≤ 16 := tz_695.1 12
                            have q_729 := ((((((((show (gI z_695 12).toInt = (gI z_694 12).toInt by rw [ez_695]; rfl)).trans (show (gI z_694 12).toInt = (gI z_693 12).toInt by rw [ez_694]; rfl)).trans (show (gI z_693 12).toInt = (gI z_692 12).toInt by rw [ez_693]; rfl)).trans (show (gI z_692 12).toInt = (gI z_691 12).toInt by rw [ez_692]; rfl)).trans (show (gI z_691 12).toInt = (gI z_690 12).toInt by rw [ez_691]; rfl)).trans (show (gI z_690 12).toInt = (gI z_689 12).toInt by rw [ez_690]; rfl)).trans (show (gI z_689 12).toInt = (gI z1 12).toInt by rw [ez_689]; rfl)).trans (show (gI z1 12).toInt = (gI z 12).toInt by rw [ez1]; rfl)
                            refine ⟨vin (a_add (a_mul (show (4 : Int32).toInt = 4 by decide) rfl (by omega) (by omega)) (show (3 : Int32).toInt = 3 by decide) (by omega) (by omega)) (by omega) (by omega), ?_⟩
                            intro z_696 ez_696
                            have tz_696 : TM z_696 := by rw [ez_696]; exact Ty_wR tz_695 trivial
                            have oz_696 : Same [0, 1, 12] [6, 7, 8, 9, 10, 11, 12] z z_696 := oz_695.r (by decide) ez_696
                            have xz_696 : RM z_696 := by rw [ez_696]; exact xz_695
                            have f_730 : 0 ≤ (gI z_696 12).toInt ∧ (gI z_696 12).toInt ≤ 16 := tz_696.1 12
                            have q_731 := (((((((((show (gI z_696 12).toInt = (gI z_695 12).toInt by rw [ez_696]; rfl)).trans (show (gI z_695 12).toInt = (gI z_694 12).toInt by rw [ez_695]; rfl)).trans (show (gI z_694 12).toInt = (gI z_693 12).toInt by rw [ez_694]; rfl)).trans (show (gI z_693 12).toInt = (gI z_692 12).toInt by rw [ez_693]; rfl)).trans (show (gI z_692 12).toInt = (gI z_691 12).toInt by rw [ez_692]; rfl)).trans (show (gI z_691 12).toInt = (gI z_690 12).toInt by rw [ez_691]; rfl)).trans (show (gI z_690 12).toInt = (gI z_689 12).toInt by rw [ez_690]; rfl)).trans (show (gI z_689 12).toInt = (gI z1 12).toInt by rw [ez_689]; rfl)).trans (show (gI z1 12).toInt = (gI z 12).toInt by rw [ez1]; rfl)
                            refine ⟨vin rfl (by omega) (by omega), ?_⟩
                            intro z_697 ez_697
                            have tz_697 : TM z_697 := by rw [ez_697]; exact Ty_wR tz_696 trivial
                            have oz_697 : Same [0, 1, 12] [6, 7, 8, 9, 10, 11, 12] z z_697 := oz_696.r (by decide) ez_697
                            have xz_697 : RM z_697 := by rw [ez_697]; exact xz_696
                            have f_732 : 0 ≤ (gI z_697 12).toInt ∧ (gI z_697 12).toInt ≤ 16 := tz_697.1 12
                            have q_733 := ((((((((((show (gI z_697 12).toInt = (gI z_696 12).toInt by rw [ez_697]; rfl)).trans (show (gI z_696 12).toInt = (gI z_695 12).toInt by rw [ez_696]; rfl)).trans (show (gI z_695 12).toInt = (gI z_694 12).toInt by rw [ez_695]; rfl)).trans (show (gI z_694 12).toInt = (gI z_693 12).toInt by rw [ez_694]; rfl)).trans (show (gI z_693 12).toInt = (gI z_692 12).toInt by rw [ez_693]; rfl)).trans (show (gI z_692 12).toInt = (gI z_691 12).toInt by rw [ez_692]; rfl)).trans (show (gI z_691 12).toInt = (gI z_690 12).toInt by rw [ez_691]; rfl)).trans (show (gI z_690 12).toInt = (gI z_689 12).toInt by rw [ez_690]; rfl)).trans (show (gI z_689 12).toInt = (gI z1 12).toInt by rw [ez_689]; rfl)).trans (show (gI z1 12).toInt = (gI z 12).toInt by rw [ez1]; rfl)
                            refine ⟨vin rfl (by omega) (by omega), ?_⟩
                            intro z_698 ez_698
                            have tz_698 : TM z_698 := by rw [ez_698]; exact Ty_wR tz_697 trivial
                            have oz_698 : Same [0, 1, 12] [6, 7, 8, 9, 10, 11, 12] z z_698 := oz_697.r (by decide) ez_698
                            have xz_698 : RM z_698 := by rw [ez_698]; exact xz_697
                            intro z_699 ez_699
                            have f_734 : 0 ≤ (gI z_698 12).toInt ∧ (gI z_698 12).toInt ≤ 16 := tz_698.1 12
                            have q_735 := (((((((((((show (gI z_698 12).toInt = (gI z_697 12).toInt by rw [ez_698]; rfl)).trans (show (gI z_697 12).toInt = (gI z_696 12).toInt by rw [ez_697]; rfl)).trans (show (gI z_696 12).toInt = (gI z_695 12).toInt by rw [ez_696]; rfl)).trans (show (gI z_695 12).toInt = (gI z_694 12).toInt by rw [ez_695]; rfl)).trans (show (gI z_694 12).toInt = (gI z_693 12).toInt by rw [ez_694]; rfl)).trans (show (gI z_693 12).toInt = (gI z_692 12).toInt by rw [ez_693]; rfl)).trans (show (gI z_692 12).toInt = (gI z_691 12).toInt by rw [ez_692]; rfl)).trans (show (gI z_691 12).toInt = (gI z_690 12).toInt by rw [ez_691]; rfl)).trans (show (gI z_690 12).toInt = (gI z_689 12).toInt by rw [ez_690]; rfl)).trans (show (gI z_689 12).toInt = (gI z1 12).toInt by rw [ez_689]; rfl)).trans (show (gI z1 12).toInt = (gI z 12).toInt by rw [ez1]; rfl)
                            have tz_699 : TM z_699 := by rw [ez_699]; exact Ty_wI tz_698 (show 0 ≤ ((gI z_698 12) + (1 : Int32)).toInt ∧ ((gI z_698 12) + (1 : Int32)).toInt ≤ 16 from by rw [(a_add rfl (show (1 : Int32).toInt = 1 by decide) (by omega) (by omega))]; omega)
                            have oz_699 : Same [0, 1, 12] [6, 7, 8, 9, 10, 11, 12] z z_699 := oz_698.i (by decide) ez_699
                            have xz_699 : RM z_699 := by rw [ez_699]; exact xz_698
                            have f_736 : 0 ≤ (gI z_699 12).toInt ∧ (gI z_699 12).toInt ≤ 16 := tz_699.1 12
                            have q_737 := (show (gI z_699 12).toInt = ((gI z_698 12) + (1 : Int32)).toInt by rw [ez_699]; rfl)
                            have q_738 : ((gI z_698 12) + (1 : Int32)).toInt = ((gI z_698 12).toInt + (1)) := (a_add rfl (show (1 : Int32).toInt = 1 by decide) (by omega) (by omega))
                            have g_739 : ((gI z_699 12) - (1 : Int32)).toInt = ((gI z_699 12).toInt - (1)) := (a_sub rfl (show (1 : Int32).toInt = 1 by decide) (by omega) (by omega))
                            refine s_X9_told ((gI z_699 12) - ((1 : Int32))) z_699 _ tz_699  (fun r_700 z_701 tz_701 o_741 hp_740 => ?_)
                            have oz_701 : Same [0, 1, 12] [6, 7, 8, 9, 10, 11, 12] z z_701 := oz_699.tr o_741 (by decide) (by decide)
                            have xz_701 : RM z_701 := RM_same xz_699 o_741 (by decide) (by decide)
                            exact hk r_700 z_701 tz_701 oz_701 xz_701 trivial
                          · skip
                            have f_742 : 0 ≤ (gI z1 12).toInt ∧ (gI z1 12).toInt ≤ 16 := tz1.1 12
                            have q_743 := (show (gI z1 12).toInt = (gI z 12).toInt by rw [ez1]; rfl)
                            have f_744 : 0 ≤ (gI z 12).toInt ∧ (gI z 12).toInt ≤ 16 := ht.1 12
                            have i_745 := i_eq rfl (show (16 : Int32).toInt = 16 by decide) c_688
                            have g_746 : (-5 : Int32).toInt = -5 := by decide
                            refine s_X9_told ((-5 : Int32)) z1 _ tz1  (fun r_702 z_703 tz_703 o_748 hp_747 => ?_)
                            have oz_703 : Same [0, 1, 12] [6, 7, 8, 9, 10, 11, 12] z z_703 := oz1.tr o_748 (by decide) (by decide)
                            have xz_703 : RM z_703 := RM_same xz1 o_748 (by decide) (by decide)
                            exact hk r_702 z_703 tz_703 oz_703 xz_703 trivial
                        · subst er_686
                          have f_749 : 0 ≤ (gI z1 8).toInt ∧ (gI z1 8).toInt ≤ 4 := tz1.1 8
                          have q_750 := (show (gI z1 8).toInt = (gI z 8).toInt by rw [ez1]; rfl)
                          have f_751 : 0 ≤ (gI z 8).toInt ∧ (gI z 8).toInt ≤ 4 := ht.1 8
                          refine ⟨fun hc => absurd hc (by decide), fun _ => ?_⟩
                          have g_752 : (-2 : Int32).toInt = -2 := by decide
                          refine s_X9_told ((-2 : Int32)) z1 _ tz1  (fun r_704 z_705 tz_705 o_754 hp_753 => ?_)
                          have oz_705 : Same [0, 1, 12] [6, 7, 8, 9, 10, 11, 12] z z_705 := oz1.tr o_754 (by decide) (by decide)
                          have xz_705 : RM z_705 := RM_same xz1 o_754 (by decide) (by decide)
                          exact hk r_704 z_705 tz_705 oz_705 xz_705 trivial
                      · subst er_606
                        refine ⟨fun _ => ?_, fun hc => absurd (show ((0 : Int32)) = ((0 : Int32)) by decide) hc⟩
                        refine hK_191  ?_
                        refine hK_190 ((0 : Int32)) ?_
                        refine ⟨fun hc => absurd hc (by decide), fun _ => ?_⟩
                        have g_778 : (-1 : Int32).toInt = -1 := by decide
                        refine s_X9_told ((-1 : Int32)) z1 _ tz1  (fun r_776 z_777 tz_777 o_780 hp_779 => ?_)
                        have oz_777 : Same [0, 1, 12] [6, 7, 8, 9, 10, 11, 12] z z_777 := oz1.tr o_780 (by decide) (by decide)
                        have xz_777 : RM z_777 := RM_same xz1 o_780 (by decide) (by decide)
                        exact hk r_776 z_777 tz_777 oz_777 xz_777 trivial
                  · skip
                    have i_781 := i_nlt rfl (show (3 : Int32).toInt = 3 by decide) c_599
                    have g_782 : (Int32.toInt64 b7).toInt = b7.toInt := (a_wide rfl)
                    have g_783 : (0 : Int64).toInt = 0 := by decide
                    have g_784 : (5000 : Int64).toInt = 5000 := by decide
                    refine s_X9_in (Int32.toInt64 b7) ((0 : Int64)) ((5000 : Int64)) z1 _ tz1  (fun r_600 hp_785 => ?_)
                    rcases hp_785 with ⟨er_600, hp_785⟩ | ⟨er_600, hp_785⟩
                    · subst er_600
                      refine ⟨fun hc => absurd hc (by decide), fun _ => ?_⟩
                      refine hK_602  ?_
                      intro K_786 hK_790
                      refine ⟨fun c_787 => ?_, fun c_787 => ?_⟩
                      · skip
                        have i_791 := i_lt rfl (show (4 : Int32).toInt = 4 by decide) c_787
                        refine hK_790  ?_
                        refine hK_190 ((1 : Int32)) ?_
                        refine ⟨fun _ => ?_, fun hc => absurd hc (by decide)⟩
                        refine s_X9_isHome b1 z1 _ tz1  (fun r_793 hp_815 => ?_)
                        rcases hp_815 with ⟨er_793, hp_815⟩ | ⟨er_793, hp_815⟩
                        · subst er_793
                          have f_816 : 0 ≤ (gI z1 8).toInt ∧ (gI z1 8).toInt ≤ 4 := tz1.1 8
                          have q_817 := (show (gI z1 8).toInt = (gI z 8).toInt by rw [ez1]; rfl)
                          have f_818 : 0 ≤ (gI z 8).toInt ∧ (gI z 8).toInt ≤ 4 := ht.1 8
                          refine ⟨fun _ => ?_, fun hc => absurd hc (by decide)⟩
                          refine ⟨fun c_795 => ?_, fun c_795 => ?_⟩
                          · skip
                            have f_819 : 0 ≤ (gI z1 12).toInt ∧ (gI z1 12).toInt ≤ 16 := tz1.1 12
                            have q_820 := (show (gI z1 12).toInt = (gI z 12).toInt by rw [ez1]; rfl)
                            have f_821 : 0 ≤ (gI z 12).toInt ∧ (gI z 12).toInt ≤ 16 := ht.1 12
                            have i_822 := i_ne rfl (show (16 : Int32).toInt = 16 by decide) c_795
                            refine ⟨vin rfl (by omega) (by omega), ?_⟩
                            intro z_796 ez_796
                            have tz_796 : TM z_796 := by rw [ez_796]; exact Ty_wR tz1 (show 0 ≤ b1.toInt ∧ b1.toInt ≤ 3 from by omega)
                            have oz_796 : Same [0, 1, 12] [6, 7, 8, 9, 10, 11, 12] z z_796 := oz1.r (by decide) ez_796
                            have xz_796 : RM z_796 := by rw [ez_796]; exact xz1
                            have f_823 : 0 ≤ (gI z_796 12).toInt ∧ (gI z_796 12).toInt ≤ 16 := tz_796.1 12
                            have q_824 := ((show (gI z_796 12).toInt = (gI z1 12).toInt by rw [ez_796]; rfl)).trans (show (gI z1 12).toInt = (gI z 12).toInt by rw [ez1]; rfl)
                            refine ⟨vin rfl (by omega) (by omega), ?_⟩
                            intro z_797 ez_797
                            have tz_797 : TM z_797 := by rw [ez_797]; exact Ty_wR tz_796 (show 0 ≤ b2.toInt ∧ b2.toInt ≤ 167 from by omega)
                            have oz_797 : Same [0, 1, 12] [6, 7, 8, 9, 10, 11, 12] z z_797 := oz_796.r (by decide) ez_797
                            have f_825 : 0 ≤ (gI z_797 12).toInt ∧ (gI z_797 12).toInt ≤ 16 := tz_797.1 12
                            have q_826 := (((show (gI z_797 12).toInt = (gI z_796 12).toInt by rw [ez_797]; rfl)).trans (show (gI z_796 12).toInt = (gI z1 12).toInt by rw [ez_796]; rfl)).trans (show (gI z1 12).toInt = (gI z 12).toInt by rw [ez1]; rfl)
                            refine ⟨vin rfl (by omega) (by omega), ?_⟩
                            intro z_798 ez_798
                            have tz_798 : TM z_798 := by rw [ez_798]; exact Ty_wR tz_797 (show 0 ≤ b3.toInt ∧ b3.toInt ≤ 167 from by omega)
                            have oz_798 : Same [0, 1, 12] [6, 7, 8, 9, 10, 11, 12] z z_798 := oz_797.r (by decide) ez_798
                            have xz_798 : RM z_798 := RM_job xz_796 ez_797 ez_798 (by rw [ez_797]; rfl) (by omega)
                            have f_827 : 0 ≤ (gI z_798 12).toInt ∧ (gI z_798 12).toInt ≤ 16 := tz_798.1 12
                            have q_828 := ((((show (gI z_798 12).toInt = (gI z_797 12).toInt by rw [ez_798]; rfl)).trans (show (gI z_797 12).toInt = (gI z_796 12).toInt by rw [ez_797]; rfl)).trans (show (gI z_796 12).toInt = (gI z1 12).toInt by rw [ez_796]; rfl)).trans (show (gI z1 12).toInt = (gI z 12).toInt by rw [ez1]; rfl)
                            refine ⟨vin rfl (by omega) (by omega), ?_⟩
                            intro z_799 ez_799
                            have tz_799 : TM z_799 := by rw [ez_799]; exact Ty_wR tz_798 (show 0 ≤ b4.toInt ∧ b4.toInt ≤ 4 from by omega)
                            have oz_799 : Same [0, 1, 12] [6, 7, 8, 9, 10, 11, 12] z z_799 := oz_798.r (by decide) ez_799
                            have xz_799 : RM z_799 := by rw [ez_799]; exact xz_798
                            have f_829 : 0 ≤ (gI z_799 12).toInt ∧ (gI z_799 12).toInt ≤ 16 := tz_799.1 12
                            have q_830 := (((((show (gI z_799 12).toInt = (gI z_798 12).toInt by rw [ez_799]; rfl)).trans (show (gI z_798 12).toInt = (gI z_797 12).toInt by rw [ez_798]; rfl)).trans (show (gI z_797 12).toInt = (gI z_796 12).toInt by rw [ez_797]; rfl)).trans (show (gI z_796 12).toInt = (gI z1 12).toInt by rw [ez_796]; rfl)).trans (show (gI z1 12).toInt = (gI z 12).toInt by rw [ez1]; rfl)
                            refine ⟨vin (a_mul (show (4 : Int32).toInt = 4 by decide) rfl (by omega) (by omega)) (by omega) (by omega), ?_⟩
                            intro z_800 ez_800
                            have tz_800 : TM z_800 := by rw [ez_800]; exact Ty_wR tz_799 trivial
                            have oz_800 : Same [0, 1, 12] [6, 7, 8, 9, 10, 11, 12] z z_800 := oz_799.r (by decide) ez_800
                            have xz_800 : RM z_800 := by rw [ez_800]; exact xz_799
                            have f_831 : 0 ≤ (gI z_800 12).toInt ∧ (gI z_800 12).toInt ≤ 16 := tz_800.1 12
                            have q_832 := ((((((show (gI z_800 12).toInt = (gI z_799 12).toInt by rw [ez_800]; rfl)).trans (show (gI z_799 12).toInt = (gI z_798 12).toInt by rw [ez_799]; rfl)).trans (show (gI z_798 12).toInt = (gI z_797 12).toInt by rw [ez_798]; rfl)).trans (show (gI z_797 12).toInt = (gI z_796 12).toInt by rw [ez_797]; rfl)).trans (show (gI z_796 12).toInt = (gI z1 12).toInt by rw [ez_796]; rfl)).trans (show (gI z1 12).toInt = (gI z 12).toInt by rw [ez1]; rfl)
                            refine ⟨vin (a_add (a_mul (show (4 : Int32).toInt = 4 by decide) rfl (by omega) (by omega)) (show (1 : Int32).toInt = 1 by decide) (by omega) (by omega)) (by omega) (by omega), ?_⟩
                            intro z_801 ez_801
                            have tz_801 : TM z_801 := by rw [ez_801]; exact Ty_wR tz_800 trivial
                            have oz_801 : Same [0, 1, 12] [6, 7, 8, 9, 10, 11, 12] z z_801 := oz_800.r (by decide) ez_801
                            have xz_801 : RM z_801 := by rw [ez_801]; exact xz_800
                            have f_833 : 0 ≤ (gI z_801 12).toInt ∧ (gI z_801 12).toInt ≤ 16 := tz_801.1 12
                            have q_834 := (((((((show (gI z_801 12).toInt = (gI z_800 12).toInt by rw [ez_801]; rfl)).trans (show (gI z_800 12).toInt = (gI z_799 12).toInt by rw [ez_800]; rfl)).trans (show (gI z_799 12).toInt = (gI z_798 12).toInt by rw [ez_799]; rfl)).trans (show (gI z_798 12).toInt = (gI z_797 12).toInt by rw [ez_798]; rfl)).trans (show (gI z_797 12).toInt = (gI z_796 12).toInt by rw [ez_797]; rfl)).trans (show (gI z_796 12).toInt = (gI z1 12).toInt by rw [ez_796]; rfl)).trans (show (gI z1 12).toInt = (gI z 12).toInt by rw [ez1]; rfl)
                            refine ⟨vin (a_add (a_mul (show (4 : Int32).toInt = 4 by decide) rfl (by omega) (by omega)) (show (2 : Int32).toInt = 2 by decide) (by omega) (by omega)) (by omega) (by omega), ?_⟩
                            intro z_802 ez_802
                            have tz_802 : TM z_802 := by rw [ez_802]; exact Ty_wR tz_801 trivial
                            have oz_802 : Same [0, 1, 12] [6, 7, 8, 9, 10, 11, 12] z z_802 := oz_801.r (by decide) ez_802
                            have xz_802 : RM z_802 := by rw [ez_802]; exact xz_801
                            have f_835 : 0 ≤ (gI z_802 12).toInt ∧ (gI z_802 12).toInt ≤ 16 := tz_802.1 12
                            have q_836 := ((((((((show (gI z_802 12).toInt = (gI z_801 12).toInt by rw [ez_802]; rfl)).trans (show (gI z_801 12).toInt = (gI z_800 12).toInt by rw [ez_801]; rfl)).trans (show (gI z_800 12).toInt = (gI z_799 12).toInt by rw [ez_800]; rfl)).trans (show (gI z_799 12).toInt = (gI z_798 12).toInt by rw [ez_799]; rfl)).trans (show (gI z_798 12).toInt = (gI z_797 12).toInt by rw [ez_798]; rfl)).trans (show (gI z_797 12).toInt = (gI z_796 12).toInt by rw [ez_797]; rfl)).trans (show (gI z_796 12).toInt = (gI z1 12).toInt by rw [ez_796]; rfl)).trans (show (gI z1 12).toInt = (gI z 12).toInt by rw [ez1]; rfl)
                            refine ⟨vin (a_add (a_mul (show (4 : Int32).toInt = 4 by decide) rfl (by omega) (by omega)) (show (3 : Int32).toInt = 3 by decide) (by omega) (by omega)) (by omega) (by omega), ?_⟩
                            intro z_803 ez_803
                            have tz_803 : TM z_803 := by rw [ez_803]; exact Ty_wR tz_802 trivial
                            have oz_803 : Same [0, 1, 12] [6, 7, 8, 9, 10, 11, 12] z z_803 := oz_802.r (by decide) ez_803
                            have xz_803 : RM z_803 := by rw [ez_803]; exact xz_802
                            have f_837 : 0 ≤ (gI z_803 12).toInt ∧ (gI z_803 12).toInt ≤ 16 := tz_803.1 12
                            have q_838 := (((((((((show (gI z_803 12).toInt = (gI z_802 12).toInt by rw [ez_803]; rfl)).trans (show (gI z_802 12).toInt = (gI z_801 12).toInt by rw [ez_802]; rfl)).trans (show (gI z_801 12).toInt = (gI z_800 12).toInt by rw [ez_801]; rfl)).trans (show (gI z_800 12).toInt = (gI z_799 12).toInt by rw [ez_800]; rfl)).trans (show (gI z_799 12).toInt = (gI z_798 12).toInt by rw [ez_799]; rfl)).trans (show (gI z_798 12).toInt = (gI z_797 12).toInt by rw [ez_798]; rfl)).trans (show (gI z_797 12).toInt = (gI z_796 12).toInt by rw [ez_797]; rfl)).trans (show (gI z_796 12).toInt = (gI z1 12).toInt by rw [ez_796]; rfl)).trans (show (gI z1 12).toInt = (gI z 12).toInt by rw [ez1]; rfl)
                            refine ⟨vin rfl (by omega) (by omega), ?_⟩
                            intro z_804 ez_804
                            have tz_804 : TM z_804 := by rw [ez_804]; exact Ty_wR tz_803 trivial
                            have oz_804 : Same [0, 1, 12] [6, 7, 8, 9, 10, 11, 12] z z_804 := oz_803.r (by decide) ez_804
                            have xz_804 : RM z_804 := by rw [ez_804]; exact xz_803
                            have f_839 : 0 ≤ (gI z_804 12).toInt ∧ (gI z_804 12).toInt ≤ 16 := tz_804.1 12
                            have q_840 := ((((((((((show (gI z_804 12).toInt = (gI z_803 12).toInt by rw [ez_804]; rfl)).trans (show (gI z_803 12).toInt = (gI z_802 12).toInt by rw [ez_803]; rfl)).trans (show (gI z_802 12).toInt = (gI z_801 12).toInt by rw [ez_802]; rfl)).trans (show (gI z_801 12).toInt = (gI z_800 12).toInt by rw [ez_801]; rfl)).trans (show (gI z_800 12).toInt = (gI z_799 12).toInt by rw [ez_800]; rfl)).trans (show (gI z_799 12).toInt = (gI z_798 12).toInt by rw [ez_799]; rfl)).trans (show (gI z_798 12).toInt = (gI z_797 12).toInt by rw [ez_798]; rfl)).trans (show (gI z_797 12).toInt = (gI z_796 12).toInt by rw [ez_797]; rfl)).trans (show (gI z_796 12).toInt = (gI z1 12).toInt by rw [ez_796]; rfl)).trans (show (gI z1 12).toInt = (gI z 12).toInt by rw [ez1]; rfl)
                            refine ⟨vin rfl (by omega) (by omega), ?_⟩
                            intro z_805 ez_805
                            have tz_805 : TM z_805 := by rw [ez_805]; exact Ty_wR tz_804 trivial
                            have oz_805 : Same [0, 1, 12] [6, 7, 8, 9, 10, 11, 12] z z_805 := oz_804.r (by decide) ez_805
                            have xz_805 : RM z_805 := by rw [ez_805]; exact xz_804
                            intro z_806 ez_806
                            have f_841 : 0 ≤ (gI z_805 12).toInt ∧ (gI z_805 12).toInt ≤ 16 := tz_805.1 12
                            have q_842 := (((((((((((show (gI z_805 12).toInt = (gI z_804 12).toInt by rw [ez_805]; rfl)).trans (show (gI z_804 12).toInt = (gI z_803 12).toInt by rw [ez_804]; rfl)).trans (show (gI z_803 12).toInt = (gI z_802 12).toInt by rw [ez_803]; rfl)).trans (show (gI z_802 12).toInt = (gI z_801 12).toInt by rw [ez_802]; rfl)).trans (show (gI z_801 12).toInt = (gI z_800 12).toInt by rw [ez_801]; rfl)).trans (show (gI z_800 12).toInt = (gI z_799 12).toInt by rw [ez_800]; rfl)).trans (show (gI z_799 12).toInt = (gI z_798 12).toInt by rw [ez_799]; rfl)).trans (show (gI z_798 12).toInt = (gI z_797 12).toInt by rw [ez_798]; rfl)).trans (show (gI z_797 12).toInt = (gI z_796 12).toInt by rw [ez_797]; rfl)).trans (show (gI z_796 12).toInt = (gI z1 12).toInt by rw [ez_796]; rfl)).trans (show (gI z1 12).toInt = (gI z 12).toInt by rw [ez1]; rfl)
                            have tz_806 : TM z_806 := by rw [ez_806]; exact Ty_wI tz_805 (show 0 ≤ ((gI z_805 12) + (1 : Int32)).toInt ∧ ((gI z_805 12) + (1 : Int32)).toInt ≤ 16 from by rw [(a_add rfl (show (1 : Int32).toInt = 1 by decide) (by omega) (by omega))]; omega)
                            have oz_806 : Same [0, 1, 12] [6, 7, 8, 9, 10, 11, 12] z z_806 := oz_805.i (by decide) ez_806
                            have xz_806 : RM z_806 := by rw [ez_806]; exact xz_805
                            have f_843 : 0 ≤ (gI z_806 12).toInt ∧ (gI z_806 12).toInt ≤ 16 := tz_806.1 12
                            have q_844 := (show (gI z_806 12).toInt = ((gI z_805 12) + (1 : Int32)).toInt by rw [ez_806]; rfl)
                            have q_845 : ((gI z_805 12) + (1 : Int32)).toInt = ((gI z_805 12).toInt + (1)) := (a_add rfl (show (1 : Int32).toInt = 1 by decide) (by omega) (by omega))
                            have g_846 : ((gI z_806 12) - (1 : Int32)).toInt = ((gI z_806 12).toInt - (1)) := (a_sub rfl (show (1 : Int32).toInt = 1 by decide) (by omega) (by omega))
                            refine s_X9_told ((gI z_806 12) - ((1 : Int32))) z_806 _ tz_806  (fun r_807 z_808 tz_808 o_848 hp_847 => ?_)
                            have oz_808 : Same [0, 1, 12] [6, 7, 8, 9, 10, 11, 12] z z_808 := oz_806.tr o_848 (by decide) (by decide)
                            have xz_808 : RM z_808 := RM_same xz_806 o_848 (by decide) (by decide)
                            exact hk r_807 z_808 tz_808 oz_808 xz_808 trivial
                          · skip
                            have f_849 : 0 ≤ (gI z1 12).toInt ∧ (gI z1 12).toInt ≤ 16 := tz1.1 12
                            have q_850 := (show (gI z1 12).toInt = (gI z 12).toInt by rw [ez1]; rfl)
                            have f_851 : 0 ≤ (gI z 12).toInt ∧ (gI z 12).toInt ≤ 16 := ht.1 12
                            have i_852 := i_eq rfl (show (16 : Int32).toInt = 16 by decide) c_795
                            have g_853 : (-5 : Int32).toInt = -5 := by decide
                            refine s_X9_told ((-5 : Int32)) z1 _ tz1  (fun r_809 z_810 tz_810 o_855 hp_854 => ?_)
                            have oz_810 : Same [0, 1, 12] [6, 7, 8, 9, 10, 11, 12] z z_810 := oz1.tr o_855 (by decide) (by decide)
                            have xz_810 : RM z_810 := RM_same xz1 o_855 (by decide) (by decide)
                            exact hk r_809 z_810 tz_810 oz_810 xz_810 trivial
                        · subst er_793
                          have f_856 : 0 ≤ (gI z1 8).toInt ∧ (gI z1 8).toInt ≤ 4 := tz1.1 8
                          have q_857 := (show (gI z1 8).toInt = (gI z 8).toInt by rw [ez1]; rfl)
                          have f_858 : 0 ≤ (gI z 8).toInt ∧ (gI z 8).toInt ≤ 4 := ht.1 8
                          refine ⟨fun hc => absurd hc (by decide), fun _ => ?_⟩
                          have g_859 : (-2 : Int32).toInt = -2 := by decide
                          refine s_X9_told ((-2 : Int32)) z1 _ tz1  (fun r_811 z_812 tz_812 o_861 hp_860 => ?_)
                          have oz_812 : Same [0, 1, 12] [6, 7, 8, 9, 10, 11, 12] z z_812 := oz1.tr o_861 (by decide) (by decide)
                          have xz_812 : RM z_812 := RM_same xz1 o_861 (by decide) (by decide)
                          exact hk r_811 z_812 tz_812 oz_812 xz_812 trivial
                      · skip
                        have i_862 := i_nlt rfl (show (4 : Int32).toInt = 4 by decide) c_787
                        have g_863 : (Int32.toInt64 b8).toInt = b8.toInt := (a_wide rfl)
                        have g_864 : (0 : Int64).toInt = 0 := by decide
                        have g_865 : (5000 : Int64).toInt = 5000 := by decide
                        refine s_X9_in (Int32.toInt64 b8) ((0 : Int64)) ((5000 : Int64)) z1 _ tz1  (fun r_788 hp_866 => ?_)
                        rcases hp_866 with ⟨er_788, hp_866⟩ | ⟨er_788, hp_866⟩
                        · subst er_788
                          refine ⟨fun hc => absurd hc (by decide), fun _ => ?_⟩
                          refine hK_790  ?_
                          refine hK_190 ((1 : Int32)) ?_
                          refine ⟨fun _ => ?_, fun hc => absurd hc (by decide)⟩
                          refine s_X9_isHome b1 z1 _ tz1  (fun r_868 hp_890 => ?_)
                          rcases hp_890 with ⟨er_868, hp_890⟩ | ⟨er_868, hp_890⟩
                          · subst er_868
                            have f_891 : 0 ≤ (gI z1 8).toInt ∧ (gI z1 8).toInt ≤ 4 := tz1.1 8
                            have q_892 := (show (gI z1 8).toInt = (gI z 8).toInt by rw [ez1]; rfl)
                            have f_893 : 0 ≤ (gI z 8).toInt ∧ (gI z 8).toInt ≤ 4 := ht.1 8
                            refine ⟨fun _ => ?_, fun hc => absurd hc (by decide)⟩
                            refine ⟨fun c_870 => ?_, fun c_870 => ?_⟩
                            · skip
                              have f_894 : 0 ≤ (gI z1 12).toInt ∧ (gI z1 12).toInt ≤ 16 := tz1.1 12
                              have q_895 := (show (gI z1 12).toInt = (gI z 12).toInt by rw [ez1]; rfl)
                              have f_896 : 0 ≤ (gI z 12).toInt ∧ (gI z 12).toInt ≤ 16 := ht.1 12
                              have i_897 := i_ne rfl (show (16 : Int32).toInt = 16 by decide) c_870
                              refine ⟨vin rfl (by omega) (by omega), ?_⟩
                              intro z_871 ez_871
                              have tz_871 : TM z_871 := by rw [ez_871]; exact Ty_wR tz1 (show 0 ≤ b1.toInt ∧ b1.toInt ≤ 3 from by omega)
                              have oz_871 : Same [0, 1, 12] [6, 7, 8, 9, 10, 11, 12] z z_871 := oz1.r (by decide) ez_871
                              have xz_871 : RM z_871 := by rw [ez_871]; exact xz1
                              have f_898 : 0 ≤ (gI z_871 12).toInt ∧ (gI z_871 12).toInt ≤ 16 := tz_871.1 12
                              have q_899 := ((show (gI z_871 12).toInt = (gI z1 12).toInt by rw [ez_871]; rfl)).trans (show (gI z1 12).toInt = (gI z 12).toInt by rw [ez1]; rfl)
                              refine ⟨vin rfl (by omega) (by omega), ?_⟩
                              intro z_872 ez_872
                              have tz_872 : TM z_872 := by rw [ez_872]; exact Ty_wR tz_871 (show 0 ≤ b2.toInt ∧ b2.toInt ≤ 167 from by omega)
                              have oz_872 : Same [0, 1, 12] [6, 7, 8, 9, 10, 11, 12] z z_872 := oz_871.r (by decide) ez_872
                              have f_900 : 0 ≤ (gI z_872 12).toInt ∧ (gI z_872 12).toInt ≤ 16 := tz_872.1 12
                              have q_901 := (((show (gI z_872 12).toInt = (gI z_871 12).toInt by rw [ez_872]; rfl)).trans (show (gI z_871 12).toInt = (gI z1 12).toInt by rw [ez_871]; rfl)).trans (show (gI z1 12).toInt = (gI z 12).toInt by rw [ez1]; rfl)
                              refine ⟨vin rfl (by omega) (by omega), ?_⟩
                              intro z_873 ez_873
                              have tz_873 : TM z_873 := by rw [ez_873]; exact Ty_wR tz_872 (show 0 ≤ b3.toInt ∧ b3.toInt ≤ 167 from by omega)
                              have oz_873 : Same [0, 1, 12] [6, 7, 8, 9, 10, 11, 12] z z_873 := oz_872.r (by decide) ez_873
                              have xz_873 : RM z_873 := RM_job xz_871 ez_872 ez_873 (by rw [ez_872]; rfl) (by omega)
                              have f_902 : 0 ≤ (gI z_873 12).toInt ∧ (gI z_873 12).toInt ≤ 16 := tz_873.1 12
                              have q_903 := ((((show (gI z_873 12).toInt = (gI z_872 12).toInt by rw [ez_873]; rfl)).trans (show (gI z_872 12).toInt = (gI z_871 12).toInt by rw [ez_872]; rfl)).trans (show (gI z_871 12).toInt = (gI z1 12).toInt by rw [ez_871]; rfl)).trans (show (gI z1 12).toInt = (gI z 12).toInt by rw [ez1]; rfl)
                              refine ⟨vin rfl (by omega) (by omega), ?_⟩
                              intro z_874 ez_874
                              have tz_874 : TM z_874 := by rw [ez_874]; exact Ty_wR tz_873 (show 0 ≤ b4.toInt ∧ b4.toInt ≤ 4 from by omega)
                              have oz_874 : Same [0, 1, 12] [6, 7, 8, 9, 10, 11, 12] z z_874 := oz_873.r (by decide) ez_874
                              have xz_874 : RM z_874 := by rw [ez_874]; exact xz_873
                              have f_904 : 0 ≤ (gI z_874 12).toInt ∧ (gI z_874 12).toInt ≤ 16 := tz_874.1 12
                              have q_905 := (((((show (gI z_874 12).toInt = (gI z_873 12).toInt by rw [ez_874]; rfl)).trans (show (gI z_873 12).toInt = (gI z_872 12).toInt by rw [ez_873]; rfl)).trans (show (gI z_872 12).toInt = (gI z_871 12).toInt by rw [ez_872]; rfl)).trans (show (gI z_871 12).toInt = (gI z1 12).toInt by rw [ez_871]; rfl)).trans (show (gI z1 12).toInt = (gI z 12).toInt by rw [ez1]; rfl)
                              refine ⟨vin (a_mul (show (4 : Int32).toInt = 4 by decide) rfl (by omega) (by omega)) (by omega) (by omega), ?_⟩
                              intro z_875 ez_875
                              have tz_875 : TM z_875 := by rw [ez_875]; exact Ty_wR tz_874 trivial
                              have oz_875 : Same [0, 1, 12] [6, 7, 8, 9, 10, 11, 12] z z_875 := oz_874.r (by decide) ez_875
                              have xz_875 : RM z_875 := by rw [ez_875]; exact xz_874
                              have f_906 : 0 ≤ (gI z_875 12).toInt ∧ (gI z_875 12).toInt ≤ 16 := tz_875.1 12
                              have q_907 := ((((((show (gI z_875 12).toInt = (gI z_874 12).toInt by rw [ez_875]; rfl)).trans (show (gI z_874 12).toInt = (gI z_873 12).toInt by rw [ez_874]; rfl)).trans (show (gI z_873 12).toInt = (gI z_872 12).toInt by rw [ez_873]; rfl)).trans (show (gI z_872 12).toInt = (gI z_871 12).toInt by rw [ez_872]; rfl)).trans (show (gI z_871 12).toInt = (gI z1 12).toInt by rw [ez_871]; rfl)).trans (show (gI z1 12).toInt = (gI z 12).toInt by rw [ez1]; rfl)
                              refine ⟨vin (a_add (a_mul (show (4 : Int32).toInt = 4 by decide) rfl (by omega) (by omega)) (show (1 : Int32).toInt = 1 by decide) (by omega) (by omega)) (by omega) (by omega), ?_⟩
                              intro z_876 ez_876
                              have tz_876 : TM z_876 := by rw [ez_876]; exact Ty_wR tz_875 trivial
                              have oz_876 : Same [0, 1, 12] [6, 7, 8, 9, 10, 11, 12] z z_876 := oz_875.r (by decide) ez_876
                              have xz_876 : RM z_876 := by rw [ez_876]; exact xz_875
                              have f_908 : 0 ≤ (gI z_876 12).toInt ∧ (gI z_876 12).toInt ≤ 16 := tz_876.1 12
                              have q_909 := (((((((show (gI z_876 12).toInt = (gI z_875 12).toInt by rw [ez_876]; rfl)).trans (show (gI z_875 12).toInt = (gI z_874 12).toInt by rw [ez_875]; rfl)).trans (show (gI z_874 12).toInt = (gI z_873 12).toInt by rw [ez_874]; rfl)).trans (show (gI z_873 12).toInt = (gI z_872 12).toInt by rw [ez_873]; rfl)).trans (show (gI z_872 12).toInt = (gI z_871 12).toInt by rw [ez_872]; rfl)).trans (show (gI z_871 12).toInt = (gI z1 12).toInt by rw [ez_871]; rfl)).trans (show (gI z1 12).toInt = (gI z 12).toInt by rw [ez1]; rfl)
                              refine ⟨vin (a_add (a_mul (show (4 : Int32).toInt = 4 by decide) rfl (by omega) (by omega)) (show (2 : Int32).toInt = 2 by decide) (by omega) (by omega)) (by omega) (by omega), ?_⟩
                              intro z_877 ez_877
                              have tz_877 : TM z_877 := by rw [ez_877]; exact Ty_wR tz_876 trivial
                              have oz_877 : Same [0, 1, 12] [6, 7, 8, 9, 10, 11, 12] z z_877 := oz_876.r (by decide) ez_877
                              have xz_877 : RM z_877 := by rw [ez_877]; exact xz_876
                              have f_910 : 0 ≤ (gI z_877 12).toInt ∧ (gI z_877 12).toInt ≤ 16 := tz_877.1 12
                              have q_911 := ((((((((show (gI z_877 12).toInt = (gI z_876 12).toInt by rw [ez_877]; rfl)).trans (show (gI z_876 12).toInt = (gI z_875 12).toInt by rw [ez_876]; rfl)).trans (show (gI z_875 12).toInt = (gI z_874 12).toInt by rw [ez_875]; rfl)).trans (show (gI z_874 12).toInt = (gI z_873 12).toInt by rw [ez_874]; rfl)).trans (show (gI z_873 12).toInt = (gI z_872 12).toInt by rw [ez_873]; rfl)).trans (show (gI z_872 12).toInt = (gI z_871 12).toInt by rw [ez_872]; rfl)).trans (show (gI z_871 12).toInt = (gI z1 12).toInt by rw [ez_871]; rfl)).trans (show (gI z1 12).toInt = (gI z 12).toInt by rw [ez1]; rfl)
                              refine ⟨vin (a_add (a_mul (show (4 : Int32).toInt = 4 by decide) rfl (by omega) (by omega)) (show (3 : Int32).toInt = 3 by decide) (by omega) (by omega)) (by omega) (by omega), ?_⟩
                              intro z_878 ez_878
                              have tz_878 : TM z_878 := by rw [ez_878]; exact Ty_wR tz_877 trivial
                              have oz_878 : Same [0, 1, 12] [6, 7, 8, 9, 10, 11, 12] z z_878 := oz_877.r (by decide) ez_878
                              have xz_878 : RM z_878 := by rw [ez_878]; exact xz_877
                              have f_912 : 0 ≤ (gI z_878 12).toInt ∧ (gI z_878 12).toInt ≤ 16 := tz_878.1 12
                              have q_913 := (((((((((show (gI z_878 12).toInt = (gI z_877 12).toInt by rw [ez_878]; rfl)).trans (show (gI z_877 12).toInt = (gI z_876 12).toInt by rw [ez_877]; rfl)).trans (show (gI z_876 12).toInt = (gI z_875 12).toInt by rw [ez_876]; rfl)).trans (show (gI z_875 12).toInt = (gI z_874 12).toInt by rw [ez_875]; rfl)).trans (show (gI z_874 12).toInt = (gI z_873 12).toInt by rw [ez_874]; rfl)).trans (show (gI z_873 12).toInt = (gI z_872 12).toInt by rw [ez_873]; rfl)).trans (show (gI z_872 12).toInt = (gI z_871 12).toInt by rw [ez_872]; rfl)).trans (show (gI z_871 12).toInt = (gI z1 12).toInt by rw [ez_871]; rfl)).trans (show (gI z1 12).toInt = (gI z 12).toInt by rw [ez1]; rfl)
                              refine ⟨vin rfl (by omega) (by omega), ?_⟩
                              intro z_879 ez_879
                              have tz_879 : TM z_879 := by rw [ez_879]; exact Ty_wR tz_878 trivial
                              have oz_879 : Same [0, 1, 12] [6, 7, 8, 9, 10, 11, 12] z z_879 := oz_878.r (by decide) ez_879
                              have xz_879 : RM z_879 := by rw [ez_879]; exact xz_878
                              have f_914 : 0 ≤ (gI z_879 12).toInt ∧ (gI z_879 12).toInt ≤ 16 := tz_879.1 12
                              have q_915 := ((((((((((show (gI z_879 12).toInt = (gI z_878 12).toInt by rw [ez_879]; rfl)).trans (show (gI z_878 12).toInt = (gI z_877 12).toInt by rw [ez_878]; rfl)).trans (show (gI z_877 12).toInt = (gI z_876 12).toInt by rw [ez_877]; rfl)).trans (show (gI z_876 12).toInt = (gI z_875 12).toInt by rw [ez_876]; rfl)).trans (show (gI z_875 12).toInt = (gI z_874 12).toInt by rw [ez_875]; rfl)).trans (show (gI z_874 12).toInt = (gI z_873 12).toInt by rw [ez_874]; rfl)).trans (show (gI z_873 12).toInt = (gI z_872 12).toInt by rw [ez_873]; rfl)).trans (show (gI z_872 12).toInt = (gI z_871 12).toInt by rw [ez_872]; rfl)).trans (show (gI z_871 12).toInt = (gI z1 12).toInt by rw [ez_871]; rfl)).trans (show (gI z1 12).toInt = (gI z 12).toInt by rw [ez1]; rfl)
                              refine ⟨vin rfl (by omega) (by omega), ?_⟩
                              intro z_880 ez_880
                              have tz_880 : TM z_880 := by rw [ez_880]; exact Ty_wR tz_879 trivial
                              have oz_880 : Same [0, 1, 12] [6, 7, 8, 9, 10, 11, 12] z z_880 := oz_879.r (by decide) ez_880
                              have xz_880 : RM z_880 := by rw [ez_880]; exact xz_879
                              intro z_881 ez_881
                              have f_916 : 0 ≤ (gI z_880 12).toInt ∧ (gI z_880 12).toInt ≤ 16 := tz_880.1 12
                              have q_917 := (((((((((((show (gI z_880 12).toInt = (gI z_879 12).toInt by rw [ez_880]; rfl)).trans (show (gI z_879 12).toInt = (gI z_878 12).toInt by rw [ez_879]; rfl)).trans (show (gI z_878 12).toInt = (gI z_877 12).toInt by rw [ez_878]; rfl)).trans (show (gI z_877 12).toInt = (gI z_876 12).toInt by rw [ez_877]; rfl)).trans (show (gI z_876 12).toInt = (gI z_875 12).toInt by rw [ez_876]; rfl)).trans (show (gI z_875 12).toInt = (gI z_874 12).toInt by rw [ez_875]; rfl)).trans (show (gI z_874 12).toInt = (gI z_873 12).toInt by rw [ez_874]; rfl)).trans (show (gI z_873 12).toInt = (gI z_872 12).toInt by rw [ez_873]; rfl)).trans (show (gI z_872 12).toInt = (gI z_871 12).toInt by rw [ez_872]; rfl)).trans (show (gI z_871 12).toInt = (gI z1 12).toInt by rw [ez_871]; rfl)).trans (show (gI z1 12).toInt = (gI z 12).toInt by rw [ez1]; rfl)
                              have tz_881 : TM z_881 := by rw [ez_881]; exact Ty_wI tz_880 (show 0 ≤ ((gI z_880 12) + (1 : Int32)).toInt ∧ ((gI z_880 12) + (1 : Int32)).toInt ≤ 16 from by rw [(a_add rfl (show (1 : Int32).toInt = 1 by decide) (by omega) (by omega))]; omega)
                              have oz_881 : Same [0, 1, 12] [6, 7, 8, 9, 10, 11, 12] z z_881 := oz_880.i (by decide) ez_881
                              have xz_881 : RM z_881 := by rw [ez_881]; exact xz_880
                              have f_918 : 0 ≤ (gI z_881 12).toInt ∧ (gI z_881 12).toInt ≤ 16 := tz_881.1 12
                              have q_919 := (show (gI z_881 12).toInt = ((gI z_880 12) + (1 : Int32)).toInt by rw [ez_881]; rfl)
                              have q_920 : ((gI z_880 12) + (1 : Int32)).toInt = ((gI z_880 12).toInt + (1)) := (a_add rfl (show (1 : Int32).toInt = 1 by decide) (by omega) (by omega))
                              have g_921 : ((gI z_881 12) - (1 : Int32)).toInt = ((gI z_881 12).toInt - (1)) := (a_sub rfl (show (1 : Int32).toInt = 1 by decide) (by omega) (by omega))
                              refine s_X9_told ((gI z_881 12) - ((1 : Int32))) z_881 _ tz_881  (fun r_882 z_883 tz_883 o_923 hp_922 => ?_)
                              have oz_883 : Same [0, 1, 12] [6, 7, 8, 9, 10, 11, 12] z z_883 := oz_881.tr o_923 (by decide) (by decide)
                              have xz_883 : RM z_883 := RM_same xz_881 o_923 (by decide) (by decide)
                              exact hk r_882 z_883 tz_883 oz_883 xz_883 trivial
                            · skip
                              have f_924 : 0 ≤ (gI z1 12).toInt ∧ (gI z1 12).toInt ≤ 16 := tz1.1 12
                              have q_925 := (show (gI z1 12).toInt = (gI z 12).toInt by rw [ez1]; rfl)
                              have f_926 : 0 ≤ (gI z 12).toInt ∧ (gI z 12).toInt ≤ 16 := ht.1 12
                              have i_927 := i_eq rfl (show (16 : Int32).toInt = 16 by decide) c_870
                              have g_928 : (-5 : Int32).toInt = -5 := by decide
                              refine s_X9_told ((-5 : Int32)) z1 _ tz1  (fun r_884 z_885 tz_885 o_930 hp_929 => ?_)
                              have oz_885 : Same [0, 1, 12] [6, 7, 8, 9, 10, 11, 12] z z_885 := oz1.tr o_930 (by decide) (by decide)
                              have xz_885 : RM z_885 := RM_same xz1 o_930 (by decide) (by decide)
                              exact hk r_884 z_885 tz_885 oz_885 xz_885 trivial
                          · subst er_868
                            have f_931 : 0 ≤ (gI z1 8).toInt ∧ (gI z1 8).toInt ≤ 4 := tz1.1 8
                            have q_932 := (show (gI z1 8).toInt = (gI z 8).toInt by rw [ez1]; rfl)
                            have f_933 : 0 ≤ (gI z 8).toInt ∧ (gI z 8).toInt ≤ 4 := ht.1 8
                            refine ⟨fun hc => absurd hc (by decide), fun _ => ?_⟩
                            have g_934 : (-2 : Int32).toInt = -2 := by decide
                            refine s_X9_told ((-2 : Int32)) z1 _ tz1  (fun r_886 z_887 tz_887 o_936 hp_935 => ?_)
                            have oz_887 : Same [0, 1, 12] [6, 7, 8, 9, 10, 11, 12] z z_887 := oz1.tr o_936 (by decide) (by decide)
                            have xz_887 : RM z_887 := RM_same xz1 o_936 (by decide) (by decide)
                            exact hk r_886 z_887 tz_887 oz_887 xz_887 trivial
                        · subst er_788
                          refine ⟨fun _ => ?_, fun hc => absurd (show ((0 : Int32)) = ((0 : Int32)) by decide) hc⟩
                          refine hK_191  ?_
                          refine hK_190 ((0 : Int32)) ?_
                          refine ⟨fun hc => absurd hc (by decide), fun _ => ?_⟩
                          have g_960 : (-1 : Int32).toInt = -1 := by decide
                          refine s_X9_told ((-1 : Int32)) z1 _ tz1  (fun r_958 z_959 tz_959 o_962 hp_961 => ?_)
                          have oz_959 : Same [0, 1, 12] [6, 7, 8, 9, 10, 11, 12] z z_959 := oz1.tr o_962 (by decide) (by decide)
                          have xz_959 : RM z_959 := RM_same xz1 o_962 (by decide) (by decide)
                          exact hk r_958 z_959 tz_959 oz_959 xz_959 trivial
                    · subst er_600
                      refine ⟨fun _ => ?_, fun hc => absurd (show ((0 : Int32)) = ((0 : Int32)) by decide) hc⟩
                      refine hK_191  ?_
                      refine hK_190 ((0 : Int32)) ?_
                      refine ⟨fun hc => absurd hc (by decide), fun _ => ?_⟩
                      have g_986 : (-1 : Int32).toInt = -1 := by decide
                      refine s_X9_told ((-1 : Int32)) z1 _ tz1  (fun r_984 z_985 tz_985 o_988 hp_987 => ?_)
                      have oz_985 : Same [0, 1, 12] [6, 7, 8, 9, 10, 11, 12] z z_985 := oz1.tr o_988 (by decide) (by decide)
                      have xz_985 : RM z_985 := RM_same xz1 o_988 (by decide) (by decide)
                      exact hk r_984 z_985 tz_985 oz_985 xz_985 trivial
                · subst er_188
                  refine ⟨fun _ => ?_, fun hc => absurd (show ((0 : Int32)) = ((0 : Int32)) by decide) hc⟩
                  refine hK_191  ?_
                  refine hK_190 ((0 : Int32)) ?_
                  refine ⟨fun hc => absurd hc (by decide), fun _ => ?_⟩
                  have g_1012 : (-1 : Int32).toInt = -1 := by decide
                  refine s_X9_told ((-1 : Int32)) z1 _ tz1  (fun r_1010 z_1011 tz_1011 o_1014 hp_1013 => ?_)
                  have oz_1011 : Same [0, 1, 12] [6, 7, 8, 9, 10, 11, 12] z z_1011 := oz1.tr o_1014 (by decide) (by decide)
                  have xz_1011 : RM z_1011 := RM_same xz1 o_1014 (by decide) (by decide)
                  exact hk r_1010 z_1011 tz_1011 oz_1011 xz_1011 trivial
            · subst er60
              refine ⟨fun _ => ?_, fun hc => absurd (show ((0 : Int32)) = ((0 : Int32)) by decide) hc⟩
              refine hK_3  ?_
              refine hK_2 ((0 : Int32)) ?_
              intro K_1015 hK_1054
              intro K_1040 hK_1055
              refine ⟨fun _ => ?_, fun hc => absurd (show ((0 : Int32)) = ((0 : Int32)) by decide) hc⟩
              refine hK_1055  ?_
              refine hK_1054 ((0 : Int32)) ?_
              refine ⟨fun hc => absurd hc (by decide), fun _ => ?_⟩
              have g_1079 : (-1 : Int32).toInt = -1 := by decide
              refine s_X9_told ((-1 : Int32)) z1 _ tz1  (fun r_1077 z_1078 tz_1078 o_1081 hp_1080 => ?_)
              have oz_1078 : Same [0, 1, 12] [6, 7, 8, 9, 10, 11, 12] z z_1078 := oz1.tr o_1081 (by decide) (by decide)
              have xz_1078 : RM z_1078 := RM_same xz1 o_1081 (by decide) (by decide)
              exact hk r_1077 z_1078 tz_1078 oz_1078 xz_1078 trivial
          · subst er57
            refine ⟨fun _ => ?_, fun hc => absurd (show ((0 : Int32)) = ((0 : Int32)) by decide) hc⟩
            refine hK_3  ?_
            refine hK_2 ((0 : Int32)) ?_
            intro K_1082 hK_1121
            intro K_1107 hK_1122
            refine ⟨fun _ => ?_, fun hc => absurd (show ((0 : Int32)) = ((0 : Int32)) by decide) hc⟩
            refine hK_1122  ?_
            refine hK_1121 ((0 : Int32)) ?_
            refine ⟨fun hc => absurd hc (by decide), fun _ => ?_⟩
            have g_1146 : (-1 : Int32).toInt = -1 := by decide
            refine s_X9_told ((-1 : Int32)) z1 _ tz1  (fun r_1144 z_1145 tz_1145 o_1148 hp_1147 => ?_)
            have oz_1145 : Same [0, 1, 12] [6, 7, 8, 9, 10, 11, 12] z z_1145 := oz1.tr o_1148 (by decide) (by decide)
            have xz_1145 : RM z_1145 := RM_same xz1 o_1148 (by decide) (by decide)
            exact hk r_1144 z_1145 tz_1145 oz_1145 xz_1145 trivial
    · subst er52
      refine ⟨fun _ => ?_, fun hc => absurd (show ((0 : Int32)) = ((0 : Int32)) by decide) hc⟩
      refine hK_3  ?_
      refine hK_2 ((0 : Int32)) ?_
      intro K_1149 hK_1188
      intro K_1174 hK_1189
      refine ⟨fun _ => ?_, fun hc => absurd (show ((0 : Int32)) = ((0 : Int32)) by decide) hc⟩
      refine hK_1189  ?_
      refine hK_1188 ((0 : Int32)) ?_
      refine ⟨fun hc => absurd hc (by decide), fun _ => ?_⟩
      have g_1213 : (-1 : Int32).toInt = -1 := by decide
      refine s_X9_told ((-1 : Int32)) z1 _ tz1  (fun r_1211 z_1212 tz_1212 o_1215 hp_1214 => ?_)
      have oz_1212 : Same [0, 1, 12] [6, 7, 8, 9, 10, 11, 12] z z_1212 := oz1.tr o_1215 (by decide) (by decide)
      have xz_1212 : RM z_1212 := RM_same xz1 o_1215 (by decide) (by decide)
      exact hk r_1211 z_1212 tz_1212 oz_1212 xz_1212 trivial
  · subst er3
    intro K5 hK_1216
    intro K49 hK_1217
    refine ⟨fun _ => ?_, fun hc => absurd (show ((0 : Int32)) = ((0 : Int32)) by decide) hc⟩
    refine hK_1217  ?_
    refine hK_1216 ((0 : Int32)) ?_
    intro K_1218 hK_1257
    intro K_1243 hK_1258
    refine ⟨fun _ => ?_, fun hc => absurd (show ((0 : Int32)) = ((0 : Int32)) by decide) hc⟩
    refine hK_1258  ?_
    refine hK_1257 ((0 : Int32)) ?_
    refine ⟨fun hc => absurd hc (by decide), fun _ => ?_⟩
    have g_1282 : (-1 : Int32).toInt = -1 := by decide
    refine s_X9_told ((-1 : Int32)) z1 _ tz1  (fun r_1280 z_1281 tz_1281 o_1284 hp_1283 => ?_)
    have oz_1281 : Same [0, 1, 12] [6, 7, 8, 9, 10, 11, 12] z z_1281 := oz1.tr o_1284 (by decide) (by decide)
    have xz_1281 : RM z_1281 := RM_same xz1 o_1284 (by decide) (by decide)
    exact hk r_1280 z_1281 tz_1281 oz_1281 xz_1281 trivial

