set_option maxHeartbeats 2000000 in
theorem s_X9_job (b1 : Int32) (b2 : Int32) (b3 : Int32) (b4 : Int32) (b5 : Int32) (b6 : Int32) (b7 : Int32) (b8 : Int32) (z : St) (P : Int32 → St → Prop) (ht : TM z)  (hk : ∀ (r : Int32) (z2 : St), TM z2 → Same [0, 1, 12] [6, 7, 8, 9, 10, 11, 12] z z2 → (True) → P r z2) : wp_X9_job b1 b2 b3 b4 b5 b6 b7 b8 z P := by
  unfold wp_X9_job
  intro z1 ez1
  have tz1 : TM z1 := by rw [ez1]; exact Ty_wI ht trivial
  have oz1 : Same [0, 1, 12] [6, 7, 8, 9, 10, 11, 12] z z1 := (Same.rf (z := z)).i (by decide) ez1
  refine s_X9_isHour b2 z1 _ tz1  (fun r3 hp_1 => ?_)
  rcases hp_1 with ⟨er3, hp_1⟩ | ⟨er3, hp_1⟩
  · subst er3
    intro K5 hK_2
    intro K49 hK_3
    refine ⟨fun hc => absurd hc (by decide), fun _ => ?_⟩
    refine s_X9_isHour b3 z1 _ tz1  (fun r52 hp_4 => ?_)
    rcases hp_4 with ⟨er52, hp_4⟩ | ⟨er52, hp_4⟩
    · subst er52
      refine ⟨fun hc => absurd hc (by decide), fun _ => ?_⟩
      refine ⟨fun c54 => ?_, fun c54 => ?_⟩
      · skip
        have i_5 := i_lt rfl rfl c54
        refine hK_3  ?_
        refine hK_2 ((0 : Int32)) ?_
        intro K_6 hK_45
        intro K_31 hK_46
        refine ⟨fun _ => ?_, fun hc => absurd (show ((0 : Int32)) = ((0 : Int32)) by decide) hc⟩
        refine hK_46  ?_
        refine hK_45 ((0 : Int32)) ?_
        refine ⟨fun hc => absurd hc (by decide), fun _ => ?_⟩
        have g_70 : (-1 : Int32).toInt = -1 := by decide
        refine s_X9_told ((-1 : Int32)) z1 _ tz1  (fun r_68 z_69 tz_69 o_72 hp_71 => ?_)
        have oz_69 : Same [0, 1, 12] [6, 7, 8, 9, 10, 11, 12] z z_69 := oz1.tr o_72 (by decide) (by decide)
        exact hk r_68 z_69 tz_69 oz_69 trivial
      · skip
        have i_73 := i_nlt rfl rfl c54
        refine ⟨fun c55 => ?_, fun c55 => ?_⟩
        · skip
          have i_74 := i_lt (show (23 : Int32).toInt = 23 by decide) (a_sub rfl rfl (by omega) (by omega)) c55
          refine hK_3  ?_
          refine hK_2 ((0 : Int32)) ?_
          intro K_75 hK_114
          intro K_100 hK_115
          refine ⟨fun _ => ?_, fun hc => absurd (show ((0 : Int32)) = ((0 : Int32)) by decide) hc⟩
          refine hK_115  ?_
          refine hK_114 ((0 : Int32)) ?_
          refine ⟨fun hc => absurd hc (by decide), fun _ => ?_⟩
          have g_139 : (-1 : Int32).toInt = -1 := by decide
          refine s_X9_told ((-1 : Int32)) z1 _ tz1  (fun r_137 z_138 tz_138 o_141 hp_140 => ?_)
          have oz_138 : Same [0, 1, 12] [6, 7, 8, 9, 10, 11, 12] z z_138 := oz1.tr o_141 (by decide) (by decide)
          exact hk r_137 z_138 tz_138 oz_138 trivial
        · skip
          have i_142 := i_nlt (show (23 : Int32).toInt = 23 by decide) (a_sub rfl rfl (by omega) (by omega)) c55
          have g_143 : (Int32.toInt64 b4).toInt = b4.toInt := (a_wide rfl)
          have g_144 : (1 : Int64).toInt = 1 := by decide
          have g_145 : (4 : Int64).toInt = 4 := by decide
          refine s_X9_in (Int32.toInt64 b4) ((1 : Int64)) ((4 : Int64)) z1 _ tz1  (fun r57 hp_146 => ?_)
          rcases hp_146 with ⟨er57, hp_146⟩ | ⟨er57, hp_146⟩
          · subst er57
            refine ⟨fun hc => absurd hc (by decide), fun _ => ?_⟩
            have g_147 : (Int32.toInt64 b5).toInt = b5.toInt := (a_wide rfl)
            have g_148 : (0 : Int64).toInt = 0 := by decide
            have g_149 : (5000 : Int64).toInt = 5000 := by decide
            refine s_X9_in (Int32.toInt64 b5) ((0 : Int64)) ((5000 : Int64)) z1 _ tz1  (fun r60 hp_150 => ?_)
            rcases hp_150 with ⟨er60, hp_150⟩ | ⟨er60, hp_150⟩
            · subst er60
              refine ⟨fun hc => absurd hc (by decide), fun _ => ?_⟩
              refine hK_2 ((1 : Int32)) ?_
              intro K_151 hK_190
              intro K_176 hK_191
              refine ⟨fun hc => absurd hc (by decide), fun _ => ?_⟩
              intro K_178 hK_192
              refine ⟨fun c_187 => ?_, fun c_187 => ?_⟩
              · skip
                have i_193 := i_lt rfl (show (2 : Int32).toInt = 2 by decide) c_187
                refine hK_192  ?_
                intro K_194 hK_202
                refine ⟨fun c_199 => ?_, fun c_199 => ?_⟩
                · skip
                  have i_203 := i_lt rfl (show (3 : Int32).toInt = 3 by decide) c_199
                  refine hK_202  ?_
                  intro K_204 hK_208
                  refine ⟨fun c_205 => ?_, fun c_205 => ?_⟩
                  · skip
                    have i_209 := i_lt rfl (show (4 : Int32).toInt = 4 by decide) c_205
                    refine hK_208  ?_
                    refine hK_190 ((1 : Int32)) ?_
                    refine ⟨fun _ => ?_, fun hc => absurd hc (by decide)⟩
                    refine s_X9_isHome b1 z1 _ tz1  (fun r_211 hp_233 => ?_)
                    rcases hp_233 with ⟨er_211, hp_233⟩ | ⟨er_211, hp_233⟩
                    · subst er_211
                      have f_234 : 0 ≤ (gI z1 8).toInt ∧ (gI z1 8).toInt ≤ 4 := tz1.1 8
                      have q_235 := (show (gI z1 8).toInt = (gI z 8).toInt by rw [ez1]; rfl)
                      have f_236 : 0 ≤ (gI z 8).toInt ∧ (gI z 8).toInt ≤ 4 := ht.1 8
                      refine ⟨fun _ => ?_, fun hc => absurd hc (by decide)⟩
                      refine ⟨fun c_213 => ?_, fun c_213 => ?_⟩
                      · skip
                        have f_237 : 0 ≤ (gI z1 12).toInt ∧ (gI z1 12).toInt ≤ 16 := tz1.1 12
                        have q_238 := (show (gI z1 12).toInt = (gI z 12).toInt by rw [ez1]; rfl)
                        have f_239 : 0 ≤ (gI z 12).toInt ∧ (gI z 12).toInt ≤ 16 := ht.1 12
                        have i_240 := i_ne rfl (show (16 : Int32).toInt = 16 by decide) c_213
                        refine ⟨vin rfl (by omega) (by omega), ?_⟩
                        intro z_214 ez_214
                        have tz_214 : TM z_214 := by rw [ez_214]; exact Ty_wR tz1 (show 0 ≤ b1.toInt ∧ b1.toInt ≤ 3 from by omega)
                        have oz_214 : Same [0, 1, 12] [6, 7, 8, 9, 10, 11, 12] z z_214 := oz1.r (by decide) ez_214
                        have f_241 : 0 ≤ (gI z_214 12).toInt ∧ (gI z_214 12).toInt ≤ 16 := tz_214.1 12
                        have q_242 := ((show (gI z_214 12).toInt = (gI z1 12).toInt by rw [ez_214]; rfl)).trans (show (gI z1 12).toInt = (gI z 12).toInt by rw [ez1]; rfl)
                        refine ⟨vin rfl (by omega) (by omega), ?_⟩
                        intro z_215 ez_215
                        have tz_215 : TM z_215 := by rw [ez_215]; exact Ty_wR tz_214 (show 0 ≤ b2.toInt ∧ b2.toInt ≤ 167 from by omega)
                        have oz_215 : Same [0, 1, 12] [6, 7, 8, 9, 10, 11, 12] z z_215 := oz_214.r (by decide) ez_215
                        have f_243 : 0 ≤ (gI z_215 12).toInt ∧ (gI z_215 12).toInt ≤ 16 := tz_215.1 12
                        have q_244 := (((show (gI z_215 12).toInt = (gI z_214 12).toInt by rw [ez_215]; rfl)).trans (show (gI z_214 12).toInt = (gI z1 12).toInt by rw [ez_214]; rfl)).trans (show (gI z1 12).toInt = (gI z 12).toInt by rw [ez1]; rfl)
                        refine ⟨vin rfl (by omega) (by omega), ?_⟩
                        intro z_216 ez_216
                        have tz_216 : TM z_216 := by rw [ez_216]; exact Ty_wR tz_215 (show 0 ≤ b3.toInt ∧ b3.toInt ≤ 167 from by omega)
                        have oz_216 : Same [0, 1, 12] [6, 7, 8, 9, 10, 11, 12] z z_216 := oz_215.r (by decide) ez_216
                        have f_245 : 0 ≤ (gI z_216 12).toInt ∧ (gI z_216 12).toInt ≤ 16 := tz_216.1 12
                        have q_246 := ((((show (gI z_216 12).toInt = (gI z_215 12).toInt by rw [ez_216]; rfl)).trans (show (gI z_215 12).toInt = (gI z_214 12).toInt by rw [ez_215]; rfl)).trans (show (gI z_214 12).toInt = (gI z1 12).toInt by rw [ez_214]; rfl)).trans (show (gI z1 12).toInt = (gI z 12).toInt by rw [ez1]; rfl)
                        refine ⟨vin rfl (by omega) (by omega), ?_⟩
                        intro z_217 ez_217
                        have tz_217 : TM z_217 := by rw [ez_217]; exact Ty_wR tz_216 (show 0 ≤ b4.toInt ∧ b4.toInt ≤ 4 from by omega)
                        have oz_217 : Same [0, 1, 12] [6, 7, 8, 9, 10, 11, 12] z z_217 := oz_216.r (by decide) ez_217
                        have f_247 : 0 ≤ (gI z_217 12).toInt ∧ (gI z_217 12).toInt ≤ 16 := tz_217.1 12
                        have q_248 := (((((show (gI z_217 12).toInt = (gI z_216 12).toInt by rw [ez_217]; rfl)).trans (show (gI z_216 12).toInt = (gI z_215 12).toInt by rw [ez_216]; rfl)).trans (show (gI z_215 12).toInt = (gI z_214 12).toInt by rw [ez_215]; rfl)).trans (show (gI z_214 12).toInt = (gI z1 12).toInt by rw [ez_214]; rfl)).trans (show (gI z1 12).toInt = (gI z 12).toInt by rw [ez1]; rfl)
                        refine ⟨vin (a_mul (show (4 : Int32).toInt = 4 by decide) rfl (by omega) (by omega)) (by omega) (by omega), ?_⟩
                        intro z_218 ez_218
                        have tz_218 : TM z_218 := by rw [ez_218]; exact Ty_wR tz_217 trivial
                        have oz_218 : Same [0, 1, 12] [6, 7, 8, 9, 10, 11, 12] z z_218 := oz_217.r (by decide) ez_218
                        have f_249 : 0 ≤ (gI z_218 12).toInt ∧ (gI z_218 12).toInt ≤ 16 := tz_218.1 12
                        have q_250 := ((((((show (gI z_218 12).toInt = (gI z_217 12).toInt by rw [ez_218]; rfl)).trans (show (gI z_217 12).toInt = (gI z_216 12).toInt by rw [ez_217]; rfl)).trans (show (gI z_216 12).toInt = (gI z_215 12).toInt by rw [ez_216]; rfl)).trans (show (gI z_215 12).toInt = (gI z_214 12).toInt by rw [ez_215]; rfl)).trans (show (gI z_214 12).toInt = (gI z1 12).toInt by rw [ez_214]; rfl)).trans (show (gI z1 12).toInt = (gI z 12).toInt by rw [ez1]; rfl)
                        refine ⟨vin (a_add (a_mul (show (4 : Int32).toInt = 4 by decide) rfl (by omega) (by omega)) (show (1 : Int32).toInt = 1 by decide) (by omega) (by omega)) (by omega) (by omega), ?_⟩
                        intro z_219 ez_219
                        have tz_219 : TM z_219 := by rw [ez_219]; exact Ty_wR tz_218 trivial
                        have oz_219 : Same [0, 1, 12] [6, 7, 8, 9, 10, 11, 12] z z_219 := oz_218.r (by decide) ez_219
                        have f_251 : 0 ≤ (gI z_219 12).toInt ∧ (gI z_219 12).toInt ≤ 16 := tz_219.1 12
                        have q_252 := (((((((show (gI z_219 12).toInt = (gI z_218 12).toInt by rw [ez_219]; rfl)).trans (show (gI z_218 12).toInt = (gI z_217 12).toInt by rw [ez_218]; rfl)).trans (show (gI z_217 12).toInt = (gI z_216 12).toInt by rw [ez_217]; rfl)).trans (show (gI z_216 12).toInt = (gI z_215 12).toInt by rw [ez_216]; rfl)).trans (show (gI z_215 12).toInt = (gI z_214 12).toInt by rw [ez_215]; rfl)).trans (show (gI z_214 12).toInt = (gI z1 12).toInt by rw [ez_214]; rfl)).trans (show (gI z1 12).toInt = (gI z 12).toInt by rw [ez1]; rfl)
                        refine ⟨vin (a_add (a_mul (show (4 : Int32).toInt = 4 by decide) rfl (by omega) (by omega)) (show (2 : Int32).toInt = 2 by decide) (by omega) (by omega)) (by omega) (by omega), ?_⟩
                        intro z_220 ez_220
                        have tz_220 : TM z_220 := by rw [ez_220]; exact Ty_wR tz_219 trivial
                        have oz_220 : Same [0, 1, 12] [6, 7, 8, 9, 10, 11, 12] z z_220 := oz_219.r (by decide) ez_220
                        have f_253 : 0 ≤ (gI z_220 12).toInt ∧ (gI z_220 12).toInt ≤ 16 := tz_220.1 12
                        have q_254 := ((((((((show (gI z_220 12).toInt = (gI z_219 12).toInt by rw [ez_220]; rfl)).trans (show (gI z_219 12).toInt = (gI z_218 12).toInt by rw [ez_219]; rfl)).trans (show (gI z_218 12).toInt = (gI z_217 12).toInt by rw [ez_218]; rfl)).trans (show (gI z_217 12).toInt = (gI z_216 12).toInt by rw [ez_217]; rfl)).trans (show (gI z_216 12).toInt = (gI z_215 12).toInt by rw [ez_216]; rfl)).trans (show (gI z_215 12).toInt = (gI z_214 12).toInt by rw [ez_215]; rfl)).trans (show (gI z_214 12).toInt = (gI z1 12).toInt by rw [ez_214]; rfl)).trans (show (gI z1 12).toInt = (gI z 12).toInt by rw [ez1]; rfl)
                        refine ⟨vin (a_add (a_mul (show (4 : Int32).toInt = 4 by decide) rfl (by omega) (by omega)) (show (3 : Int32).toInt = 3 by decide) (by omega) (by omega)) (by omega) (by omega), ?_⟩
                        intro z_221 ez_221
                        have tz_221 : TM z_221 := by rw [ez_221]; exact Ty_wR tz_220 trivial
                        have oz_221 : Same [0, 1, 12] [6, 7, 8, 9, 10, 11, 12] z z_221 := oz_220.r (by decide) ez_221
                        have f_255 : 0 ≤ (gI z_221 12).toInt ∧ (gI z_221 12).toInt ≤ 16 := tz_221.1 12
                        have q_256 := (((((((((show (gI z_221 12).toInt = (gI z_220 12).toInt by rw [ez_221]; rfl)).trans (show (gI z_220 12).toInt = (gI z_219 12).toInt by rw [ez_220]; rfl)).trans (show (gI z_219 12).toInt = (gI z_218 12).toInt by rw [ez_219]; rfl)).trans (show (gI z_218 12).toInt = (gI z_217 12).toInt by rw [ez_218]; rfl)).trans (show (gI z_217 12).toInt = (gI z_216 12).toInt by rw [ez_217]; rfl)).trans (show (gI z_216 12).toInt = (gI z_215 12).toInt by rw [ez_216]; rfl)).trans (show (gI z_215 12).toInt = (gI z_214 12).toInt by rw [ez_215]; rfl)).trans (show (gI z_214 12).toInt = (gI z1 12).toInt by rw [ez_214]; rfl)).trans (show (gI z1 12).toInt = (gI z 12).toInt by rw [ez1]; rfl)
                        refine ⟨vin rfl (by omega) (by omega), ?_⟩
                        intro z_222 ez_222
                        have tz_222 : TM z_222 := by rw [ez_222]; exact Ty_wR tz_221 trivial
                        have oz_222 : Same [0, 1, 12] [6, 7, 8, 9, 10, 11, 12] z z_222 := oz_221.r (by decide) ez_222
                        have f_257 : 0 ≤ (gI z_222 12).toInt ∧ (gI z_222 12).toInt ≤ 16 := tz_222.1 12
                        have q_258 := ((((((((((show (gI z_222 12).toInt = (gI z_221 12).toInt by rw [ez_222]; rfl)).trans (show (gI z_221 12).toInt = (gI z_220 12).toInt by rw [ez_221]; rfl)).trans (show (gI z_220 12).toInt = (gI z_219 12).toInt by rw [ez_220]; rfl)).trans (show (gI z_219 12).toInt = (gI z_218 12).toInt by rw [ez_219]; rfl)).trans (show (gI z_218 12).toInt = (gI z_217 12).toInt by rw [ez_218]; rfl)).trans (show (gI z_217 12).toInt = (gI z_216 12).toInt by rw [ez_217]; rfl)).trans (show (gI z_216 12).toInt = (gI z_215 12).toInt by rw [ez_216]; rfl)).trans (show (gI z_215 12).toInt = (gI z_214 12).toInt by rw [ez_215]; rfl)).trans (show (gI z_214 12).toInt = (gI z1 12).toInt by rw [ez_214]; rfl)).trans (show (gI z1 12).toInt = (gI z 12).toInt by rw [ez1]; rfl)
                        refine ⟨vin rfl (by omega) (by omega), ?_⟩
                        intro z_223 ez_223
                        have tz_223 : TM z_223 := by rw [ez_223]; exact Ty_wR tz_222 trivial
                        have oz_223 : Same [0, 1, 12] [6, 7, 8, 9, 10, 11, 12] z z_223 := oz_222.r (by decide) ez_223
                        intro z_224 ez_224
                        have f_259 : 0 ≤ (gI z_223 12).toInt ∧ (gI z_223 12).toInt ≤ 16 := tz_223.1 12
                        have q_260 := (((((((((((show (gI z_223 12).toInt = (gI z_222 12).toInt by rw [ez_223]; rfl)).trans (show (gI z_222 12).toInt = (gI z_221 12).toInt by rw [ez_222]; rfl)).trans (show (gI z_221 12).toInt = (gI z_220 12).toInt by rw [ez_221]; rfl)).trans (show (gI z_220 12).toInt = (gI z_219 12).toInt by rw [ez_220]; rfl)).trans (show (gI z_219 12).toInt = (gI z_218 12).toInt by rw [ez_219]; rfl)).trans (show (gI z_218 12).toInt = (gI z_217 12).toInt by rw [ez_218]; rfl)).trans (show (gI z_217 12).toInt = (gI z_216 12).toInt by rw [ez_217]; rfl)).trans (show (gI z_216 12).toInt = (gI z_215 12).toInt by rw [ez_216]; rfl)).trans (show (gI z_215 12).toInt = (gI z_214 12).toInt by rw [ez_215]; rfl)).trans (show (gI z_214 12).toInt = (gI z1 12).toInt by rw [ez_214]; rfl)).trans (show (gI z1 12).toInt = (gI z 12).toInt by rw [ez1]; rfl)
                        have tz_224 : TM z_224 := by rw [ez_224]; exact Ty_wI tz_223 (show 0 ≤ ((gI z_223 12) + (1 : Int32)).toInt ∧ ((gI z_223 12) + (1 : Int32)).toInt ≤ 16 from by rw [(a_add rfl (show (1 : Int32).toInt = 1 by decide) (by omega) (by omega))]; omega)
                        have oz_224 : Same [0, 1, 12] [6, 7, 8, 9, 10, 11, 12] z z_224 := oz_223.i (by decide) ez_224
                        have f_261 : 0 ≤ (gI z_224 12).toInt ∧ (gI z_224 12).toInt ≤ 16 := tz_224.1 12
                        have q_262 := (show (gI z_224 12).toInt = ((gI z_223 12) + (1 : Int32)).toInt by rw [ez_224]; rfl)
                        have q_263 : ((gI z_223 12) + (1 : Int32)).toInt = ((gI z_223 12).toInt + (1)) := (a_add rfl (show (1 : Int32).toInt = 1 by decide) (by omega) (by omega))
                        have g_264 : ((gI z_224 12) - (1 : Int32)).toInt = ((gI z_224 12).toInt - (1)) := (a_sub rfl (show (1 : Int32).toInt = 1 by decide) (by omega) (by omega))
                        refine s_X9_told ((gI z_224 12) - ((1 : Int32))) z_224 _ tz_224  (fun r_225 z_226 tz_226 o_266 hp_265 => ?_)
                        have oz_226 : Same [0, 1, 12] [6, 7, 8, 9, 10, 11, 12] z z_226 := oz_224.tr o_266 (by decide) (by decide)
                        exact hk r_225 z_226 tz_226 oz_226 trivial
                      · skip
                        have f_267 : 0 ≤ (gI z1 12).toInt ∧ (gI z1 12).toInt ≤ 16 := tz1.1 12
                        have q_268 := (show (gI z1 12).toInt = (gI z 12).toInt by rw [ez1]; rfl)
                        have f_269 : 0 ≤ (gI z 12).toInt ∧ (gI z 12).toInt ≤ 16 := ht.1 12
                        have i_270 := i_eq rfl (show (16 : Int32).toInt = 16 by decide) c_213
                        have g_271 : (-5 : Int32).toInt = -5 := by decide
                        refine s_X9_told ((-5 : Int32)) z1 _ tz1  (fun r_227 z_228 tz_228 o_273 hp_272 => ?_)
                        have oz_228 : Same [0, 1, 12] [6, 7, 8, 9, 10, 11, 12] z z_228 := oz1.tr o_273 (by decide) (by decide)
                        exact hk r_227 z_228 tz_228 oz_228 trivial
                    · subst er_211
                      have f_274 : 0 ≤ (gI z1 8).toInt ∧ (gI z1 8).toInt ≤ 4 := tz1.1 8
                      have q_275 := (show (gI z1 8).toInt = (gI z 8).toInt by rw [ez1]; rfl)
                      have f_276 : 0 ≤ (gI z 8).toInt ∧ (gI z 8).toInt ≤ 4 := ht.1 8
                      refine ⟨fun hc => absurd hc (by decide), fun _ => ?_⟩
                      have g_277 : (-2 : Int32).toInt = -2 := by decide
                      refine s_X9_told ((-2 : Int32)) z1 _ tz1  (fun r_229 z_230 tz_230 o_279 hp_278 => ?_)
                      have oz_230 : Same [0, 1, 12] [6, 7, 8, 9, 10, 11, 12] z z_230 := oz1.tr o_279 (by decide) (by decide)
                      exact hk r_229 z_230 tz_230 oz_230 trivial
                  · skip
                    have i_280 := i_nlt rfl (show (4 : Int32).toInt = 4 by decide) c_205
                    have g_281 : (Int32.toInt64 b8).toInt = b8.toInt := (a_wide rfl)
                    have g_282 : (0 : Int64).toInt = 0 := by decide
                    have g_283 : (5000 : Int64).toInt = 5000 := by decide
                    refine s_X9_in (Int32.toInt64 b8) ((0 : Int64)) ((5000 : Int64)) z1 _ tz1  (fun r_206 hp_284 => ?_)
                    rcases hp_284 with ⟨er_206, hp_284⟩ | ⟨er_206, hp_284⟩
                    · subst er_206
                      refine ⟨fun hc => absurd hc (by decide), fun _ => ?_⟩
                      refine hK_208  ?_
                      refine hK_190 ((1 : Int32)) ?_
                      refine ⟨fun _ => ?_, fun hc => absurd hc (by decide)⟩
                      refine s_X9_isHome b1 z1 _ tz1  (fun r_286 hp_308 => ?_)
                      rcases hp_308 with ⟨er_286, hp_308⟩ | ⟨er_286, hp_308⟩
                      · subst er_286
                        have f_309 : 0 ≤ (gI z1 8).toInt ∧ (gI z1 8).toInt ≤ 4 := tz1.1 8
                        have q_310 := (show (gI z1 8).toInt = (gI z 8).toInt by rw [ez1]; rfl)
                        have f_311 : 0 ≤ (gI z 8).toInt ∧ (gI z 8).toInt ≤ 4 := ht.1 8
                        refine ⟨fun _ => ?_, fun hc => absurd hc (by decide)⟩
                        refine ⟨fun c_288 => ?_, fun c_288 => ?_⟩
                        · skip
                          have f_312 : 0 ≤ (gI z1 12).toInt ∧ (gI z1 12).toInt ≤ 16 := tz1.1 12
                          have q_313 := (show (gI z1 12).toInt = (gI z 12).toInt by rw [ez1]; rfl)
                          have f_314 : 0 ≤ (gI z 12).toInt ∧ (gI z 12).toInt ≤ 16 := ht.1 12
                          have i_315 := i_ne rfl (show (16 : Int32).toInt = 16 by decide) c_288
                          refine ⟨vin rfl (by omega) (by omega), ?_⟩
                          intro z_289 ez_289
                          have tz_289 : TM z_289 := by rw [ez_289]; exact Ty_wR tz1 (show 0 ≤ b1.toInt ∧ b1.toInt ≤ 3 from by omega)
                          have oz_289 : Same [0, 1, 12] [6, 7, 8, 9, 10, 11, 12] z z_289 := oz1.r (by decide) ez_289
                          have f_316 : 0 ≤ (gI z_289 12).toInt ∧ (gI z_289 12).toInt ≤ 16 := tz_289.1 12
                          have q_317 := ((show (gI z_289 12).toInt = (gI z1 12).toInt by rw [ez_289]; rfl)).trans (show (gI z1 12).toInt = (gI z 12).toInt by rw [ez1]; rfl)
                          refine ⟨vin rfl (by omega) (by omega), ?_⟩
                          intro z_290 ez_290
                          have tz_290 : TM z_290 := by rw [ez_290]; exact Ty_wR tz_289 (show 0 ≤ b2.toInt ∧ b2.toInt ≤ 167 from by omega)
                          have oz_290 : Same [0, 1, 12] [6, 7, 8, 9, 10, 11, 12] z z_290 := oz_289.r (by decide) ez_290
                          have f_318 : 0 ≤ (gI z_290 12).toInt ∧ (gI z_290 12).toInt ≤ 16 := tz_290.1 12
                          have q_319 := (((show (gI z_290 12).toInt = (gI z_289 12).toInt by rw [ez_290]; rfl)).trans (show (gI z_289 12).toInt = (gI z1 12).toInt by rw [ez_289]; rfl)).trans (show (gI z1 12).toInt = (gI z 12).toInt by rw [ez1]; rfl)
                          refine ⟨vin rfl (by omega) (by omega), ?_⟩
                          intro z_291 ez_291
                          have tz_291 : TM z_291 := by rw [ez_291]; exact Ty_wR tz_290 (show 0 ≤ b3.toInt ∧ b3.toInt ≤ 167 from by omega)
                          have oz_291 : Same [0, 1, 12] [6, 7, 8, 9, 10, 11, 12] z z_291 := oz_290.r (by decide) ez_291
                          have f_320 : 0 ≤ (gI z_291 12).toInt ∧ (gI z_291 12).toInt ≤ 16 := tz_291.1 12
                          have q_321 := ((((show (gI z_291 12).toInt = (gI z_290 12).toInt by rw [ez_291]; rfl)).trans (show (gI z_290 12).toInt = (gI z_289 12).toInt by rw [ez_290]; rfl)).trans (show (gI z_289 12).toInt = (gI z1 12).toInt by rw [ez_289]; rfl)).trans (show (gI z1 12).toInt = (gI z 12).toInt by rw [ez1]; rfl)
                          refine ⟨vin rfl (by omega) (by omega), ?_⟩
                          intro z_292 ez_292
                          have tz_292 : TM z_292 := by rw [ez_292]; exact Ty_wR tz_291 (show 0 ≤ b4.toInt ∧ b4.toInt ≤ 4 from by omega)
                          have oz_292 : Same [0, 1, 12] [6, 7, 8, 9, 10, 11, 12] z z_292 := oz_291.r (by decide) ez_292
                          have f_322 : 0 ≤ (gI z_292 12).toInt ∧ (gI z_292 12).toInt ≤ 16 := tz_292.1 12
                          have q_323 := (((((show (gI z_292 12).toInt = (gI z_291 12).toInt by rw [ez_292]; rfl)).trans (show (gI z_291 12).toInt = (gI z_290 12).toInt by rw [ez_291]; rfl)).trans (show (gI z_290 12).toInt = (gI z_289 12).toInt by rw [ez_290]; rfl)).trans (show (gI z_289 12).toInt = (gI z1 12).toInt by rw [ez_289]; rfl)).trans (show (gI z1 12).toInt = (gI z 12).toInt by rw [ez1]; rfl)
                          refine ⟨vin (a_mul (show (4 : Int32).toInt = 4 by decide) rfl (by omega) (by omega)) (by omega) (by omega), ?_⟩
                          intro z_293 ez_293
                          have tz_293 : TM z_293 := by rw [ez_293]; exact Ty_wR tz_292 trivial
                          have oz_293 : Same [0, 1, 12] [6, 7, 8, 9, 10, 11, 12] z z_293 := oz_292.r (by decide) ez_293
                          have f_324 : 0 ≤ (gI z_293 12).toInt ∧ (gI z_293 12).toInt ≤ 16 := tz_293.1 12
                          have q_325 := ((((((show (gI z_293 12).toInt = (gI z_292 12).toInt by rw [ez_293]; rfl)).trans (show (gI z_292 12).toInt = (gI z_291 12).toInt by rw [ez_292]; rfl)).trans (show (gI z_291 12).toInt = (gI z_290 12).toInt by rw [ez_291]; rfl)).trans (show (gI z_290 12).toInt = (gI z_289 12).toInt by rw [ez_290]; rfl)).trans (show (gI z_289 12).toInt = (gI z1 12).toInt by rw [ez_289]; rfl)).trans (show (gI z1 12).toInt = (gI z 12).toInt by rw [ez1]; rfl)
                          refine ⟨vin (a_add (a_mul (show (4 : Int32).toInt = 4 by decide) rfl (by omega) (by omega)) (show (1 : Int32).toInt = 1 by decide) (by omega) (by omega)) (by omega) (by omega), ?_⟩
                          intro z_294 ez_294
                          have tz_294 : TM z_294 := by rw [ez_294]; exact Ty_wR tz_293 trivial
                          have oz_294 : Same [0, 1, 12] [6, 7, 8, 9, 10, 11, 12] z z_294 := oz_293.r (by decide) ez_294
                          have f_326 : 0 ≤ (gI z_294 12).toInt ∧ (gI z_294 12).toInt ≤ 16 := tz_294.1 12
                          have q_327 := (((((((show (gI z_294 12).toInt = (gI z_293 12).toInt by rw [ez_294]; rfl)).trans (show (gI z_293 12).toInt = (gI z_292 12).toInt by rw [ez_293]; rfl)).trans (show (gI z_292 12).toInt = (gI z_291 12).toInt by rw [ez_292]; rfl)).trans (show (gI z_291 12).toInt = (gI z_290 12).toInt by rw [ez_291]; rfl)).trans (show (gI z_290 12).toInt = (gI z_289 12).toInt by rw [ez_290]; rfl)).trans (show (gI z_289 12).toInt = (gI z1 12).toInt by rw [ez_289]; rfl)).trans (show (gI z1 12).toInt = (gI z 12).toInt by rw [ez1]; rfl)
                          refine ⟨vin (a_add (a_mul (show (4 : Int32).toInt = 4 by decide) rfl (by omega) (by omega)) (show (2 : Int32).toInt = 2 by decide) (by omega) (by omega)) (by omega) (by omega), ?_⟩
                          intro z_295 ez_295
                          have tz_295 : TM z_295 := by rw [ez_295]; exact Ty_wR tz_294 trivial
                          have oz_295 : Same [0, 1, 12] [6, 7, 8, 9, 10, 11, 12] z z_295 := oz_294.r (by decide) ez_295
                          have f_328 : 0 ≤ (gI z_295 12).toInt ∧ (gI z_295 12).toInt ≤ 16 := tz_295.1 12
                          have q_329 := ((((((((show (gI z_295 12).toInt = (gI z_294 12).toInt by rw [ez_295]; rfl)).trans (show (gI z_294 12).toInt = (gI z_293 12).toInt by rw [ez_294]; rfl)).trans (show (gI z_293 12).toInt = (gI z_292 12).toInt by rw [ez_293]; rfl)).trans (show (gI z_292 12).toInt = (gI z_291 12).toInt by rw [ez_292]; rfl)).trans (show (gI z_291 12).toInt = (gI z_290 12).toInt by rw [ez_291]; rfl)).trans (show (gI z_290 12).toInt = (gI z_289 12).toInt by rw [ez_290]; rfl)).trans (show (gI z_289 12).toInt = (gI z1 12).toInt by rw [ez_289]; rfl)).trans (show (gI z1 12).toInt = (gI z 12).toInt by rw [ez1]; rfl)
                          refine ⟨vin (a_add (a_mul (show (4 : Int32).toInt = 4 by decide) rfl (by omega) (by omega)) (show (3 : Int32).toInt = 3 by decide) (by omega) (by omega)) (by omega) (by omega), ?_⟩
                          intro z_296 ez_296
                          have tz_296 : TM z_296 := by rw [ez_296]; exact Ty_wR tz_295 trivial
                          have oz_296 : Same [0, 1, 12] [6, 7, 8, 9, 10, 11, 12] z z_296 := oz_295.r (by decide) ez_296
                          have f_330 : 0 ≤ (gI z_296 12).toInt ∧ (gI z_296 12).toInt ≤ 16 := tz_296.1 12
                          have q_331 := (((((((((show (gI z_296 12).toInt = (gI z_295 12).toInt by rw [ez_296]; rfl)).trans (show (gI z_295 12).toInt = (gI z_294 12).toInt by rw [ez_295]; rfl)).trans (show (gI z_294 12).toInt = (gI z_293 12).toInt by rw [ez_294]; rfl)).trans (show (gI z_293 12).toInt = (gI z_292 12).toInt by rw [ez_293]; rfl)).trans (show (gI z_292 12).toInt = (gI z_291 12).toInt by rw [ez_292]; rfl)).trans (show (gI z_291 12).toInt = (gI z_290 12).toInt by rw [ez_291]; rfl)).trans (show (gI z_290 12).toInt = (gI z_289 12).toInt by rw [ez_290]; rfl)).trans (show (gI z_289 12).toInt = (gI z1 12).toInt by rw [ez_289]; rfl)).trans (show (gI z1 12).toInt = (gI z 12).toInt by rw [ez1]; rfl)
                          refine ⟨vin rfl (by omega) (by omega), ?_⟩
                          intro z_297 ez_297
                          have tz_297 : TM z_297 := by rw [ez_297]; exact Ty_wR tz_296 trivial
                          have oz_297 : Same [0, 1, 12] [6, 7, 8, 9, 10, 11, 12] z z_297 := oz_296.r (by decide) ez_297
                          have f_332 : 0 ≤ (gI z_297 12).toInt ∧ (gI z_297 12).toInt ≤ 16 := tz_297.1 12
                          have q_333 := ((((((((((show (gI z_297 12).toInt = (gI z_296 12).toInt by rw [ez_297]; rfl)).trans (show (gI z_296 12).toInt = (gI z_295 12).toInt by rw [ez_296]; rfl)).trans (show (gI z_295 12).toInt = (gI z_294 12).toInt by rw [ez_295]; rfl)).trans (show (gI z_294 12).toInt = (gI z_293 12).toInt by rw [ez_294]; rfl)).trans (show (gI z_293 12).toInt = (gI z_292 12).toInt by rw [ez_293]; rfl)).trans (show (gI z_292 12).toInt = (gI z_291 12).toInt by rw [ez_292]; rfl)).trans (show (gI z_291 12).toInt = (gI z_290 12).toInt by rw [ez_291]; rfl)).trans (show (gI z_290 12).toInt = (gI z_289 12).toInt by rw [ez_290]; rfl)).trans (show (gI z_289 12).toInt = (gI z1 12).toInt by rw [ez_289]; rfl)).trans (show (gI z1 12).toInt = (gI z 12).toInt by rw [ez1]; rfl)
                          refine ⟨vin rfl (by omega) (by omega), ?_⟩
                          intro z_298 ez_298
                          have tz_298 : TM z_298 := by rw [ez_298]; exact Ty_wR tz_297 trivial
                          have oz_298 : Same [0, 1, 12] [6, 7, 8, 9, 10, 11, 12] z z_298 := oz_297.r (by decide) ez_298
                          intro z_299 ez_299
                          have f_334 : 0 ≤ (gI z_298 12).toInt ∧ (gI z_298 12).toInt ≤ 16 := tz_298.1 12
                          have q_335 := (((((((((((show (gI z_298 12).toInt = (gI z_297 12).toInt by rw [ez_298]; rfl)).trans (show (gI z_297 12).toInt = (gI z_296 12).toInt by rw [ez_297]; rfl)).trans (show (gI z_296 12).toInt = (gI z_295 12).toInt by rw [ez_296]; rfl)).trans (show (gI z_295 12).toInt = (gI z_294 12).toInt by rw [ez_295]; rfl)).trans (show (gI z_294 12).toInt = (gI z_293 12).toInt by rw [ez_294]; rfl)).trans (show (gI z_293 12).toInt = (gI z_292 12).toInt by rw [ez_293]; rfl)).trans (show (gI z_292 12).toInt = (gI z_291 12).toInt by rw [ez_292]; rfl)).trans (show (gI z_291 12).toInt = (gI z_290 12).toInt by rw [ez_291]; rfl)).trans (show (gI z_290 12).toInt = (gI z_289 12).toInt by rw [ez_290]; rfl)).trans (show (gI z_289 12).toInt = (gI z1 12).toInt by rw [ez_289]; rfl)).trans (show (gI z1 12).toInt = (gI z 12).toInt by rw [ez1]; rfl)
                          have tz_299 : TM z_299 := by rw [ez_299]; exact Ty_wI tz_298 (show 0 ≤ ((gI z_298 12) + (1 : Int32)).toInt ∧ ((gI z_298 12) + (1 : Int32)).toInt ≤ 16 from by rw [(a_add rfl (show (1 : Int32).toInt = 1 by decide) (by omega) (by omega))]; omega)
                          have oz_299 : Same [0, 1, 12] [6, 7, 8, 9, 10, 11, 12] z z_299 := oz_298.i (by decide) ez_299
                          have f_336 : 0 ≤ (gI z_299 12).toInt ∧ (gI z_299 12).toInt ≤ 16 := tz_299.1 12
                          have q_337 := (show (gI z_299 12).toInt = ((gI z_298 12) + (1 : Int32)).toInt by rw [ez_299]; rfl)
                          have q_338 : ((gI z_298 12) + (1 : Int32)).toInt = ((gI z_298 12).toInt + (1)) := (a_add rfl (show (1 : Int32).toInt = 1 by decide) (by omega) (by omega))
                          have g_339 : ((gI z_299 12) - (1 : Int32)).toInt = ((gI z_299 12).toInt - (1)) := (a_sub rfl (show (1 : Int32).toInt = 1 by decide) (by omega) (by omega))
                          refine s_X9_told ((gI z_299 12) - ((1 : Int32))) z_299 _ tz_299  (fun r_300 z_301 tz_301 o_341 hp_340 => ?_)
                          have oz_301 : Same [0, 1, 12] [6, 7, 8, 9, 10, 11, 12] z z_301 := oz_299.tr o_341 (by decide) (by decide)
                          exact hk r_300 z_301 tz_301 oz_301 trivial
                        · skip
                          have f_342 : 0 ≤ (gI z1 12).toInt ∧ (gI z1 12).toInt ≤ 16 := tz1.1 12
                          have q_343 := (show (gI z1 12).toInt = (gI z 12).toInt by rw [ez1]; rfl)
                          have f_344 : 0 ≤ (gI z 12).toInt ∧ (gI z 12).toInt ≤ 16 := ht.1 12
                          have i_345 := i_eq rfl (show (16 : Int32).toInt = 16 by decide) c_288
                          have g_346 : (-5 : Int32).toInt = -5 := by decide
                          refine s_X9_told ((-5 : Int32)) z1 _ tz1  (fun r_302 z_303 tz_303 o_348 hp_347 => ?_)
                          have oz_303 : Same [0, 1, 12] [6, 7, 8, 9, 10, 11, 12] z z_303 := oz1.tr o_348 (by decide) (by decide)
                          exact hk r_302 z_303 tz_303 oz_303 trivial
                      · subst er_286
                        have f_349 : 0 ≤ (gI z1 8).toInt ∧ (gI z1 8).toInt ≤ 4 := tz1.1 8
                        have q_350 := (show (gI z1 8).toInt = (gI z 8).toInt by rw [ez1]; rfl)
                        have f_351 : 0 ≤ (gI z 8).toInt ∧ (gI z 8).toInt ≤ 4 := ht.1 8
                        refine ⟨fun hc => absurd hc (by decide), fun _ => ?_⟩
                        have g_352 : (-2 : Int32).toInt = -2 := by decide
                        refine s_X9_told ((-2 : Int32)) z1 _ tz1  (fun r_304 z_305 tz_305 o_354 hp_353 => ?_)
                        have oz_305 : Same [0, 1, 12] [6, 7, 8, 9, 10, 11, 12] z z_305 := oz1.tr o_354 (by decide) (by decide)
                        exact hk r_304 z_305 tz_305 oz_305 trivial
                    · subst er_206
                      refine ⟨fun _ => ?_, fun hc => absurd (show ((0 : Int32)) = ((0 : Int32)) by decide) hc⟩
                      refine hK_191  ?_
                      refine hK_190 ((0 : Int32)) ?_
                      refine ⟨fun hc => absurd hc (by decide), fun _ => ?_⟩
                      have g_378 : (-1 : Int32).toInt = -1 := by decide
                      refine s_X9_told ((-1 : Int32)) z1 _ tz1  (fun r_376 z_377 tz_377 o_380 hp_379 => ?_)
                      have oz_377 : Same [0, 1, 12] [6, 7, 8, 9, 10, 11, 12] z z_377 := oz1.tr o_380 (by decide) (by decide)
                      exact hk r_376 z_377 tz_377 oz_377 trivial
                · skip
                  have i_381 := i_nlt rfl (show (3 : Int32).toInt = 3 by decide) c_199
                  have g_382 : (Int32.toInt64 b7).toInt = b7.toInt := (a_wide rfl)
                  have g_383 : (0 : Int64).toInt = 0 := by decide
                  have g_384 : (5000 : Int64).toInt = 5000 := by decide
                  refine s_X9_in (Int32.toInt64 b7) ((0 : Int64)) ((5000 : Int64)) z1 _ tz1  (fun r_200 hp_385 => ?_)
                  rcases hp_385 with ⟨er_200, hp_385⟩ | ⟨er_200, hp_385⟩
                  · subst er_200
                    refine ⟨fun hc => absurd hc (by decide), fun _ => ?_⟩
                    refine hK_202  ?_
                    intro K_386 hK_390
                    refine ⟨fun c_387 => ?_, fun c_387 => ?_⟩
                    · skip
                      have i_391 := i_lt rfl (show (4 : Int32).toInt = 4 by decide) c_387
                      refine hK_390  ?_
                      refine hK_190 ((1 : Int32)) ?_
                      refine ⟨fun _ => ?_, fun hc => absurd hc (by decide)⟩
                      refine s_X9_isHome b1 z1 _ tz1  (fun r_393 hp_415 => ?_)
                      rcases hp_415 with ⟨er_393, hp_415⟩ | ⟨er_393, hp_415⟩
                      · subst er_393
                        have f_416 : 0 ≤ (gI z1 8).toInt ∧ (gI z1 8).toInt ≤ 4 := tz1.1 8
                        have q_417 := (show (gI z1 8).toInt = (gI z 8).toInt by rw [ez1]; rfl)
                        have f_418 : 0 ≤ (gI z 8).toInt ∧ (gI z 8).toInt ≤ 4 := ht.1 8
                        refine ⟨fun _ => ?_, fun hc => absurd hc (by decide)⟩
                        refine ⟨fun c_395 => ?_, fun c_395 => ?_⟩
                        · skip
                          have f_419 : 0 ≤ (gI z1 12).toInt ∧ (gI z1 12).toInt ≤ 16 := tz1.1 12
                          have q_420 := (show (gI z1 12).toInt = (gI z 12).toInt by rw [ez1]; rfl)
                          have f_421 : 0 ≤ (gI z 12).toInt ∧ (gI z 12).toInt ≤ 16 := ht.1 12
                          have i_422 := i_ne rfl (show (16 : Int32).toInt = 16 by decide) c_395
                          refine ⟨vin rfl (by omega) (by omega), ?_⟩
                          intro z_396 ez_396
                          have tz_396 : TM z_396 := by rw [ez_396]; exact Ty_wR tz1 (show 0 ≤ b1.toInt ∧ b1.toInt ≤ 3 from by omega)
                          have oz_396 : Same [0, 1, 12] [6, 7, 8, 9, 10, 11, 12] z z_396 := oz1.r (by decide) ez_396
                          have f_423 : 0 ≤ (gI z_396 12).toInt ∧ (gI z_396 12).toInt ≤ 16 := tz_396.1 12
                          have q_424 := ((show (gI z_396 12).toInt = (gI z1 12).toInt by rw [ez_396]; rfl)).trans (show (gI z1 12).toInt = (gI z 12).toInt by rw [ez1]; rfl)
                          refine ⟨vin rfl (by omega) (by omega), ?_⟩
                          intro z_397 ez_397
                          have tz_397 : TM z_397 := by rw [ez_397]; exact Ty_wR tz_396 (show 0 ≤ b2.toInt ∧ b2.toInt ≤ 167 from by omega)
                          have oz_397 : Same [0, 1, 12] [6, 7, 8, 9, 10, 11, 12] z z_397 := oz_396.r (by decide) ez_397
                          have f_425 : 0 ≤ (gI z_397 12).toInt ∧ (gI z_397 12).toInt ≤ 16 := tz_397.1 12
                          have q_426 := (((show (gI z_397 12).toInt = (gI z_396 12).toInt by rw [ez_397]; rfl)).trans (show (gI z_396 12).toInt = (gI z1 12).toInt by rw [ez_396]; rfl)).trans (show (gI z1 12).toInt = (gI z 12).toInt by rw [ez1]; rfl)
                          refine ⟨vin rfl (by omega) (by omega), ?_⟩
                          intro z_398 ez_398
                          have tz_398 : TM z_398 := by rw [ez_398]; exact Ty_wR tz_397 (show 0 ≤ b3.toInt ∧ b3.toInt ≤ 167 from by omega)
                          have oz_398 : Same [0, 1, 12] [6, 7, 8, 9, 10, 11, 12] z z_398 := oz_397.r (by decide) ez_398
                          have f_427 : 0 ≤ (gI z_398 12).toInt ∧ (gI z_398 12).toInt ≤ 16 := tz_398.1 12
                          have q_428 := ((((show (gI z_398 12).toInt = (gI z_397 12).toInt by rw [ez_398]; rfl)).trans (show (gI z_397 12).toInt = (gI z_396 12).toInt by rw [ez_397]; rfl)).trans (show (gI z_396 12).toInt = (gI z1 12).toInt by rw [ez_396]; rfl)).trans (show (gI z1 12).toInt = (gI z 12).toInt by rw [ez1]; rfl)
                          refine ⟨vin rfl (by omega) (by omega), ?_⟩
                          intro z_399 ez_399
                          have tz_399 : TM z_399 := by rw [ez_399]; exact Ty_wR tz_398 (show 0 ≤ b4.toInt ∧ b4.toInt ≤ 4 from by omega)
                          have oz_399 : Same [0, 1, 12] [6, 7, 8, 9, 10, 11, 12] z z_399 := oz_398.r (by decide) ez_399
                          have f_429 : 0 ≤ (gI z_399 12).toInt ∧ (gI z_399 12).toInt ≤ 16 := tz_399.1 12
                          have q_430 := (((((show (gI z_399 12).toInt = (gI z_398 12).toInt by rw [ez_399]; rfl)).trans (show (gI z_398 12).toInt = (gI z_397 12).toInt by rw [ez_398]; rfl)).trans (show (gI z_397 12).toInt = (gI z_396 12).toInt by rw [ez_397]; rfl)).trans (show (gI z_396 12).toInt = (gI z1 12).toInt by rw [ez_396]; rfl)).trans (show (gI z1 12).toInt = (gI z 12).toInt by rw [ez1]; rfl)
                          refine ⟨vin (a_mul (show (4 : Int32).toInt = 4 by decide) rfl (by omega) (by omega)) (by omega) (by omega), ?_⟩
                          intro z_400 ez_400
                          have tz_400 : TM z_400 := by rw [ez_400]; exact Ty_wR tz_399 trivial
                          have oz_400 : Same [0, 1, 12] [6, 7, 8, 9, 10, 11, 12] z z_400 := oz_399.r (by decide) ez_400
                          have f_431 : 0 ≤ (gI z_400 12).toInt ∧ (gI z_400 12).toInt ≤ 16 := tz_400.1 12
                          have q_432 := ((((((show (gI z_400 12).toInt = (gI z_399 12).toInt by rw [ez_400]; rfl)).trans (show (gI z_399 12).toInt = (gI z_398 12).toInt by rw [ez_399]; rfl)).trans (show (gI z_398 12).toInt = (gI z_397 12).toInt by rw [ez_398]; rfl)).trans (show (gI z_397 12).toInt = (gI z_396 12).toInt by rw [ez_397]; rfl)).trans (show (gI z_396 12).toInt = (gI z1 12).toInt by rw [ez_396]; rfl)).trans (show (gI z1 12).toInt = (gI z 12).toInt by rw [ez1]; rfl)
                          refine ⟨vin (a_add (a_mul (show (4 : Int32).toInt = 4 by decide) rfl (by omega) (by omega)) (show (1 : Int32).toInt = 1 by decide) (by omega) (by omega)) (by omega) (by omega), ?_⟩
                          intro z_401 ez_401
                          have tz_401 : TM z_401 := by rw [ez_401]; exact Ty_wR tz_400 trivial
                          have oz_401 : Same [0, 1, 12] [6, 7, 8, 9, 10, 11, 12] z z_401 := oz_400.r (by decide) ez_401
                          have f_433 : 0 ≤ (gI z_401 12).toInt ∧ (gI z_401 12).toInt ≤ 16 := tz_401.1 12
                          have q_434 := (((((((show (gI z_401 12).toInt = (gI z_400 12).toInt by rw [ez_401]; rfl)).trans (show (gI z_400 12).toInt = (gI z_399 12).toInt by rw [ez_400]; rfl)).trans (show (gI z_399 12).toInt = (gI z_398 12).toInt by rw [ez_399]; rfl)).trans (show (gI z_398 12).toInt = (gI z_397 12).toInt by rw [ez_398]; rfl)).trans (show (gI z_397 12).toInt = (gI z_396 12).toInt by rw [ez_397]; rfl)).trans (show (gI z_396 12).toInt = (gI z1 12).toInt by rw [ez_396]; rfl)).trans (show (gI z1 12).toInt = (gI z 12).toInt by rw [ez1]; rfl)
                          refine ⟨vin (a_add (a_mul (show (4 : Int32).toInt = 4 by decide) rfl (by omega) (by omega)) (show (2 : Int32).toInt = 2 by decide) (by omega) (by omega)) (by omega) (by omega), ?_⟩
                          intro z_402 ez_402
                          have tz_402 : TM z_402 := by rw [ez_402]; exact Ty_wR tz_401 trivial
                          have oz_402 : Same [0, 1, 12] [6, 7, 8, 9, 10, 11, 12] z z_402 := oz_401.r (by decide) ez_402
                          have f_435 : 0 ≤ (gI z_402 12).toInt ∧ (gI z_402 12).toInt ≤ 16 := tz_402.1 12
                          have q_436 := ((((((((show (gI z_402 12).toInt = (gI z_401 12).toInt by rw [ez_402]; rfl)).trans (show (gI z_401 12).toInt = (gI z_400 12).toInt by rw [ez_401]; rfl)).trans (show (gI z_400 12).toInt = (gI z_399 12).toInt by rw [ez_400]; rfl)).trans (show (gI z_399 12).toInt = (gI z_398 12).toInt by rw [ez_399]; rfl)).trans (show (gI z_398 12).toInt = (gI z_397 12).toInt by rw [ez_398]; rfl)).trans (show (gI z_397 12).toInt = (gI z_396 12).toInt by rw [ez_397]; rfl)).trans (show (gI z_396 12).toInt = (gI z1 12).toInt by rw [ez_396]; rfl)).trans (show (gI z1 12).toInt = (gI z 12).toInt by rw [ez1]; rfl)
                          refine ⟨vin (a_add (a_mul (show (4 : Int32).toInt = 4 by decide) rfl (by omega) (by omega)) (show (3 : Int32).toInt = 3 by decide) (by omega) (by omega)) (by omega) (by omega), ?_⟩
                          intro z_403 ez_403
                          have tz_403 : TM z_403 := by rw [ez_403]; exact Ty_wR tz_402 trivial
                          have oz_403 : Same [0, 1, 12] [6, 7, 8, 9, 10, 11, 12] z z_403 := oz_402.r (by decide) ez_403
                          have f_437 : 0 ≤ (gI z_403 12).toInt ∧ (gI z_403 12).toInt ≤ 16 := tz_403.1 12
                          have q_438 := (((((((((show (gI z_403 12).toInt = (gI z_402 12).toInt by rw [ez_403]; rfl)).trans (show (gI z_402 12).toInt = (gI z_401 12).toInt by rw [ez_402]; rfl)).trans (show (gI z_401 12).toInt = (gI z_400 12).toInt by rw [ez_401]; rfl)).trans (show (gI z_400 12).toInt = (gI z_399 12).toInt by rw [ez_400]; rfl)).trans (show (gI z_399 12).toInt = (gI z_398 12).toInt by rw [ez_399]; rfl)).trans (show (gI z_398 12).toInt = (gI z_397 12).toInt by rw [ez_398]; rfl)).trans (show (gI z_397 12).toInt = (gI z_396 12).toInt by rw [ez_397]; rfl)).trans (show (gI z_396 12).toInt = (gI z1 12).toInt by rw [ez_396]; rfl)).trans (show (gI z1 12).toInt = (gI z 12).toInt by rw [ez1]; rfl)
                          refine ⟨vin rfl (by omega) (by omega), ?_⟩
                          intro z_404 ez_404
                          have tz_404 : TM z_404 := by rw [ez_404]; exact Ty_wR tz_403 trivial
                          have oz_404 : Same [0, 1, 12] [6, 7, 8, 9, 10, 11, 12] z z_404 := oz_403.r (by decide) ez_404
                          have f_439 : 0 ≤ (gI z_404 12).toInt ∧ (gI z_404 12).toInt ≤ 16 := tz_404.1 12
                          have q_440 := ((((((((((show (gI z_404 12).toInt = (gI z_403 12).toInt by rw [ez_404]; rfl)).trans (show (gI z_403 12).toInt = (gI z_402 12).toInt by rw [ez_403]; rfl)).trans (show (gI z_402 12).toInt = (gI z_401 12).toInt by rw [ez_402]; rfl)).trans (show (gI z_401 12).toInt = (gI z_400 12).toInt by rw [ez_401]; rfl)).trans (show (gI z_400 12).toInt = (gI z_399 12).toInt by rw [ez_400]; rfl)).trans (show (gI z_399 12).toInt = (gI z_398 12).toInt by rw [ez_399]; rfl)).trans (show (gI z_398 12).toInt = (gI z_397 12).toInt by rw [ez_398]; rfl)).trans (show (gI z_397 12).toInt = (gI z_396 12).toInt by rw [ez_397]; rfl)).trans (show (gI z_396 12).toInt = (gI z1 12).toInt by rw [ez_396]; rfl)).trans (show (gI z1 12).toInt = (gI z 12).toInt by rw [ez1]; rfl)
                          refine ⟨vin rfl (by omega) (by omega), ?_⟩
                          intro z_405 ez_405
                          have tz_405 : TM z_405 := by rw [ez_405]; exact Ty_wR tz_404 trivial
                          have oz_405 : Same [0, 1, 12] [6, 7, 8, 9, 10, 11, 12] z z_405 := oz_404.r (by decide) ez_405
                          intro z_406 ez_406
                          have f_441 : 0 ≤ (gI z_405 12).toInt ∧ (gI z_405 12).toInt ≤ 16 := tz_405.1 12
                          have q_442 := (((((((((((show (gI z_405 12).toInt = (gI z_404 12).toInt by rw [ez_405]; rfl)).trans (show (gI z_404 12).toInt = (gI z_403 12).toInt by rw [ez_404]; rfl)).trans (show (gI z_403 12).toInt = (gI z_402 12).toInt by rw [ez_403]; rfl)).trans (show (gI z_402 12).toInt = (gI z_401 12).toInt by rw [ez_402]; rfl)).trans (show (gI z_401 12).toInt = (gI z_400 12).toInt by rw [ez_401]; rfl)).trans (show (gI z_400 12).toInt = (gI z_399 12).toInt by rw [ez_400]; rfl)).trans (show (gI z_399 12).toInt = (gI z_398 12).toInt by rw [ez_399]; rfl)).trans (show (gI z_398 12).toInt = (gI z_397 12).toInt by rw [ez_398]; rfl)).trans (show (gI z_397 12).toInt = (gI z_396 12).toInt by rw [ez_397]; rfl)).trans (show (gI z_396 12).toInt = (gI z1 12).toInt by rw [ez_396]; rfl)).trans (show (gI z1 12).toInt = (gI z 12).toInt by rw [ez1]; rfl)
                          have tz_406 : TM z_406 := by rw [ez_406]; exact Ty_wI tz_405 (show 0 ≤ ((gI z_405 12) + (1 : Int32)).toInt ∧ ((gI z_405 12) + (1 : Int32)).toInt ≤ 16 from by rw [(a_add rfl (show (1 : Int32).toInt = 1 by decide) (by omega) (by omega))]; omega)
                          have oz_406 : Same [0, 1, 12] [6, 7, 8, 9, 10, 11, 12] z z_406 := oz_405.i (by decide) ez_406
                          have f_443 : 0 ≤ (gI z_406 12).toInt ∧ (gI z_406 12).toInt ≤ 16 := tz_406.1 12
                          have q_444 := (show (gI z_406 12).toInt = ((gI z_405 12) + (1 : Int32)).toInt by rw [ez_406]; rfl)
                          have q_445 : ((gI z_405 12) + (1 : Int32)).toInt = ((gI z_405 12).toInt + (1)) := (a_add rfl (show (1 : Int32).toInt = 1 by decide) (by omega) (by omega))
                          have g_446 : ((gI z_406 12) - (1 : Int32)).toInt = ((gI z_406 12).toInt - (1)) := (a_sub rfl (show (1 : Int32).toInt = 1 by decide) (by omega) (by omega))
                          refine s_X9_told ((gI z_406 12) - ((1 : Int32))) z_406 _ tz_406  (fun r_407 z_408 tz_408 o_448 hp_447 => ?_)
                          have oz_408 : Same [0, 1, 12] [6, 7, 8, 9, 10, 11, 12] z z_408 := oz_406.tr o_448 (by decide) (by decide)
                          exact hk r_407 z_408 tz_408 oz_408 trivial
                        · skip
                          have f_449 : 0 ≤ (gI z1 12).toInt ∧ (gI z1 12).toInt ≤ 16 := tz1.1 12
                          have q_450 := (show (gI z1 12).toInt = (gI z 12).toInt by rw [ez1]; rfl)
                          have f_451 : 0 ≤ (gI z 12).toInt ∧ (gI z 12).toInt ≤ 16 := ht.1 12
                          have i_452 := i_eq rfl (show (16 : Int32).toInt = 16 by decide) c_395
                          have g_453 : (-5 : Int32).toInt = -5 := by decide
                          refine s_X9_told ((-5 : Int32)) z1 _ tz1  (fun r_409 z_410 tz_410 o_455 hp_454 => ?_)
                          have oz_410 : Same [0, 1, 12] [6, 7, 8, 9, 10, 11, 12] z z_410 := oz1.tr o_455 (by decide) (by decide)
                          exact hk r_409 z_410 tz_410 oz_410 trivial
                      · subst er_393
                        have f_456 : 0 ≤ (gI z1 8).toInt ∧ (gI z1 8).toInt ≤ 4 := tz1.1 8
                        have q_457 := (show (gI z1 8).toInt = (gI z 8).toInt by rw [ez1]; rfl)
                        have f_458 : 0 ≤ (gI z 8).toInt ∧ (gI z 8).toInt ≤ 4 := ht.1 8
                        refine ⟨fun hc => absurd hc (by decide), fun _ => ?_⟩
                        have g_459 : (-2 : Int32).toInt = -2 := by decide
                        refine s_X9_told ((-2 : Int32)) z1 _ tz1  (fun r_411 z_412 tz_412 o_461 hp_460 => ?_)
                        have oz_412 : Same [0, 1, 12] [6, 7, 8, 9, 10, 11, 12] z z_412 := oz1.tr o_461 (by decide) (by decide)
                        exact hk r_411 z_412 tz_412 oz_412 trivial
                    · skip
                      have i_462 := i_nlt rfl (show (4 : Int32).toInt = 4 by decide) c_387
                      have g_463 : (Int32.toInt64 b8).toInt = b8.toInt := (a_wide rfl)
                      have g_464 : (0 : Int64).toInt = 0 := by decide
                      have g_465 : (5000 : Int64).toInt = 5000 := by decide
                      refine s_X9_in (Int32.toInt64 b8) ((0 : Int64)) ((5000 : Int64)) z1 _ tz1  (fun r_388 hp_466 => ?_)
                      rcases hp_466 with ⟨er_388, hp_466⟩ | ⟨er_388, hp_466⟩
                      · subst er_388
                        refine ⟨fun hc => absurd hc (by decide), fun _ => ?_⟩
                        refine hK_390  ?_
                        refine hK_190 ((1 : Int32)) ?_
                        refine ⟨fun _ => ?_, fun hc => absurd hc (by decide)⟩
                        refine s_X9_isHome b1 z1 _ tz1  (fun r_468 hp_490 => ?_)
                        rcases hp_490 with ⟨er_468, hp_490⟩ | ⟨er_468, hp_490⟩
                        · subst er_468
                          have f_491 : 0 ≤ (gI z1 8).toInt ∧ (gI z1 8).toInt ≤ 4 := tz1.1 8
                          have q_492 := (show (gI z1 8).toInt = (gI z 8).toInt by rw [ez1]; rfl)
                          have f_493 : 0 ≤ (gI z 8).toInt ∧ (gI z 8).toInt ≤ 4 := ht.1 8
                          refine ⟨fun _ => ?_, fun hc => absurd hc (by decide)⟩
                          refine ⟨fun c_470 => ?_, fun c_470 => ?_⟩
                          · skip
                            have f_494 : 0 ≤ (gI z1 12).toInt ∧ (gI z1 12).toInt ≤ 16 := tz1.1 12
                            have q_495 := (show (gI z1 12).toInt = (gI z 12).toInt by rw [ez1]; rfl)
                            have f_496 : 0 ≤ (gI z 12).toInt ∧ (gI z 12).toInt ≤ 16 := ht.1 12
                            have i_497 := i_ne rfl (show (16 : Int32).toInt = 16 by decide) c_470
                            refine ⟨vin rfl (by omega) (by omega), ?_⟩
                            intro z_471 ez_471
                            have tz_471 : TM z_471 := by rw [ez_471]; exact Ty_wR tz1 (show 0 ≤ b1.toInt ∧ b1.toInt ≤ 3 from by omega)
                            have oz_471 : Same [0, 1, 12] [6, 7, 8, 9, 10, 11, 12] z z_471 := oz1.r (by decide) ez_471
                            have f_498 : 0 ≤ (gI z_471 12).toInt ∧ (gI z_471 12).toInt ≤ 16 := tz_471.1 12
                            have q_499 := ((show (gI z_471 12).toInt = (gI z1 12).toInt by rw [ez_471]; rfl)).trans (show (gI z1 12).toInt = (gI z 12).toInt by rw [ez1]; rfl)
                            refine ⟨vin rfl (by omega) (by omega), ?_⟩
                            intro z_472 ez_472
                            have tz_472 : TM z_472 := by rw [ez_472]; exact Ty_wR tz_471 (show 0 ≤ b2.toInt ∧ b2.toInt ≤ 167 from by omega)
                            have oz_472 : Same [0, 1, 12] [6, 7, 8, 9, 10, 11, 12] z z_472 := oz_471.r (by decide) ez_472
                            have f_500 : 0 ≤ (gI z_472 12).toInt ∧ (gI z_472 12).toInt ≤ 16 := tz_472.1 12
                            have q_501 := (((show (gI z_472 12).toInt = (gI z_471 12).toInt by rw [ez_472]; rfl)).trans (show (gI z_471 12).toInt = (gI z1 12).toInt by rw [ez_471]; rfl)).trans (show (gI z1 12).toInt = (gI z 12).toInt by rw [ez1]; rfl)
                            refine ⟨vin rfl (by omega) (by omega), ?_⟩
                            intro z_473 ez_473
                            have tz_473 : TM z_473 := by rw [ez_473]; exact Ty_wR tz_472 (show 0 ≤ b3.toInt ∧ b3.toInt ≤ 167 from by omega)
                            have oz_473 : Same [0, 1, 12] [6, 7, 8, 9, 10, 11, 12] z z_473 := oz_472.r (by decide) ez_473
                            have f_502 : 0 ≤ (gI z_473 12).toInt ∧ (gI z_473 12).toInt ≤ 16 := tz_473.1 12
                            have q_503 := ((((show (gI z_473 12).toInt = (gI z_472 12).toInt by rw [ez_473]; rfl)).trans (show (gI z_472 12).toInt = (gI z_471 12).toInt by rw [ez_472]; rfl)).trans (show (gI z_471 12).toInt = (gI z1 12).toInt by rw [ez_471]; rfl)).trans (show (gI z1 12).toInt = (gI z 12).toInt by rw [ez1]; rfl)
                            refine ⟨vin rfl (by omega) (by omega), ?_⟩
                            intro z_474 ez_474
                            have tz_474 : TM z_474 := by rw [ez_474]; exact Ty_wR tz_473 (show 0 ≤ b4.toInt ∧ b4.toInt ≤ 4 from by omega)
                            have oz_474 : Same [0, 1, 12] [6, 7, 8, 9, 10, 11, 12] z z_474 := oz_473.r (by decide) ez_474
                            have f_504 : 0 ≤ (gI z_474 12).toInt ∧ (gI z_474 12).toInt ≤ 16 := tz_474.1 12
                            have q_505 := (((((show (gI z_474 12).toInt = (gI z_473 12).toInt by rw [ez_474]; rfl)).trans (show (gI z_473 12).toInt = (gI z_472 12).toInt by rw [ez_473]; rfl)).trans (show (gI z_472 12).toInt = (gI z_471 12).toInt by rw [ez_472]; rfl)).trans (show (gI z_471 12).toInt = (gI z1 12).toInt by rw [ez_471]; rfl)).trans (show (gI z1 12).toInt = (gI z 12).toInt by rw [ez1]; rfl)
                            refine ⟨vin (a_mul (show (4 : Int32).toInt = 4 by decide) rfl (by omega) (by omega)) (by omega) (by omega), ?_⟩
                            intro z_475 ez_475
                            have tz_475 : TM z_475 := by rw [ez_475]; exact Ty_wR tz_474 trivial
                            have oz_475 : Same [0, 1, 12] [6, 7, 8, 9, 10, 11, 12] z z_475 := oz_474.r (by decide) ez_475
                            have f_506 : 0 ≤ (gI z_475 12).toInt ∧ (gI z_475 12).toInt ≤ 16 := tz_475.1 12
                            have q_507 := ((((((show (gI z_475 12).toInt = (gI z_474 12).toInt by rw [ez_475]; rfl)).trans (show (gI z_474 12).toInt = (gI z_473 12).toInt by rw [ez_474]; rfl)).trans (show (gI z_473 12).toInt = (gI z_472 12).toInt by rw [ez_473]; rfl)).trans (show (gI z_472 12).toInt = (gI z_471 12).toInt by rw [ez_472]; rfl)).trans (show (gI z_471 12).toInt = (gI z1 12).toInt by rw [ez_471]; rfl)).trans (show (gI z1 12).toInt = (gI z 12).toInt by rw [ez1]; rfl)
                            refine ⟨vin (a_add (a_mul (show (4 : Int32).toInt = 4 by decide) rfl (by omega) (by omega)) (show (1 : Int32).toInt = 1 by decide) (by omega) (by omega)) (by omega) (by omega), ?_⟩
                            intro z_476 ez_476
                            have tz_476 : TM z_476 := by rw [ez_476]; exact Ty_wR tz_475 trivial
                            have oz_476 : Same [0, 1, 12] [6, 7, 8, 9, 10, 11, 12] z z_476 := oz_475.r (by decide) ez_476
                            have f_508 : 0 ≤ (gI z_476 12).toInt ∧ (gI z_476 12).toInt ≤ 16 := tz_476.1 12
                            have q_509 := (((((((show (gI z_476 12).toInt = (gI z_475 12).toInt by rw [ez_476]; rfl)).trans (show (gI z_475 12).toInt = (gI z_474 12).toInt by rw [ez_475]; rfl)).trans (show (gI z_474 12).toInt = (gI z_473 12).toInt by rw [ez_474]; rfl)).trans (show (gI z_473 12).toInt = (gI z_472 12).toInt by rw [ez_473]; rfl)).trans (show (gI z_472 12).toInt = (gI z_471 12).toInt by rw [ez_472]; rfl)).trans (show (gI z_471 12).toInt = (gI z1 12).toInt by rw [ez_471]; rfl)).trans (show (gI z1 12).toInt = (gI z 12).toInt by rw [ez1]; rfl)
                            refine ⟨vin (a_add (a_mul (show (4 : Int32).toInt = 4 by decide) rfl (by omega) (by omega)) (show (2 : Int32).toInt = 2 by decide) (by omega) (by omega)) (by omega) (by omega), ?_⟩
                            intro z_477 ez_477
                            have tz_477 : TM z_477 := by rw [ez_477]; exact Ty_wR tz_476 trivial
                            have oz_477 : Same [0, 1, 12] [6, 7, 8, 9, 10, 11, 12] z z_477 := oz_476.r (by decide) ez_477
                            have f_510 : 0 ≤ (gI z_477 12).toInt ∧ (gI z_477 12).toInt ≤ 16 := tz_477.1 12
                            have q_511 := ((((((((show (gI z_477 12).toInt = (gI z_476 12).toInt by rw [ez_477]; rfl)).trans (show (gI z_476 12).toInt = (gI z_475 12).toInt by rw [ez_476]; rfl)).trans (show (gI z_475 12).toInt = (gI z_474 12).toInt by rw [ez_475]; rfl)).trans (show (gI z_474 12).toInt = (gI z_473 12).toInt by rw [ez_474]; rfl)).trans (show (gI z_473 12).toInt = (gI z_472 12).toInt by rw [ez_473]; rfl)).trans (show (gI z_472 12).toInt = (gI z_471 12).toInt by rw [ez_472]; rfl)).trans (show (gI z_471 12).toInt = (gI z1 12).toInt by rw [ez_471]; rfl)).trans (show (gI z1 12).toInt = (gI z 12).toInt by rw [ez1]; rfl)
                            refine ⟨vin (a_add (a_mul (show (4 : Int32).toInt = 4 by decide) rfl (by omega) (by omega)) (show (3 : Int32).toInt = 3 by decide) (by omega) (by omega)) (by omega) (by omega), ?_⟩
                            intro z_478 ez_478
                            have tz_478 : TM z_478 := by rw [ez_478]; exact Ty_wR tz_477 trivial
                            have oz_478 : Same [0, 1, 12] [6, 7, 8, 9, 10, 11, 12] z z_478 := oz_477.r (by decide) ez_478
                            have f_512 : 0 ≤ (gI z_478 12).toInt ∧ (gI z_478 12).toInt ≤ 16 := tz_478.1 12
                            have q_513 := (((((((((show (gI z_478 12).toInt = (gI z_477 12).toInt by rw [ez_478]; rfl)).trans (show (gI z_477 12).toInt = (gI z_476 12).toInt by rw [ez_477]; rfl)).trans (show (gI z_476 12).toInt = (gI z_475 12).toInt by rw [ez_476]; rfl)).trans (show (gI z_475 12).toInt = (gI z_474 12).toInt by rw [ez_475]; rfl)).trans (show (gI z_474 12).toInt = (gI z_473 12).toInt by rw [ez_474]; rfl)).trans (show (gI z_473 12).toInt = (gI z_472 12).toInt by rw [ez_473]; rfl)).trans (show (gI z_472 12).toInt = (gI z_471 12).toInt by rw [ez_472]; rfl)).trans (show (gI z_471 12).toInt = (gI z1 12).toInt by rw [ez_471]; rfl)).trans (show (gI z1 12).toInt = (gI z 12).toInt by rw [ez1]; rfl)
                            refine ⟨vin rfl (by omega) (by omega), ?_⟩
                            intro z_479 ez_479
                            have tz_479 : TM z_479 := by rw [ez_479]; exact Ty_wR tz_478 trivial
                            have oz_479 : Same [0, 1, 12] [6, 7, 8, 9, 10, 11, 12] z z_479 := oz_478.r (by decide) ez_479
                            have f_514 : 0 ≤ (gI z_479 12).toInt ∧ (gI z_479 12).toInt ≤ 16 := tz_479.1 12
                            have q_515 := ((((((((((show (gI z_479 12).toInt = (gI z_478 12).toInt by rw [ez_479]; rfl)).trans (show (gI z_478 12).toInt = (gI z_477 12).toInt by rw [ez_478]; rfl)).trans (show (gI z_477 12).toInt = (gI z_476 12).toInt by rw [ez_477]; rfl)).trans (show (gI z_476 12).toInt = (gI z_475 12).toInt by rw [ez_476]; rfl)).trans (show (gI z_475 12).toInt = (gI z_474 12).toInt by rw [ez_475]; rfl)).trans (show (gI z_474 12).toInt = (gI z_473 12).toInt by rw [ez_474]; rfl)).trans (show (gI z_473 12).toInt = (gI z_472 12).toInt by rw [ez_473]; rfl)).trans (show (gI z_472 12).toInt = (gI z_471 12).toInt by rw [ez_472]; rfl)).trans (show (gI z_471 12).toInt = (gI z1 12).toInt by rw [ez_471]; rfl)).trans (show (gI z1 12).toInt = (gI z 12).toInt by rw [ez1]; rfl)
                            refine ⟨vin rfl (by omega) (by omega), ?_⟩
                            intro z_480 ez_480
                            have tz_480 : TM z_480 := by rw [ez_480]; exact Ty_wR tz_479 trivial
                            have oz_480 : Same [0, 1, 12] [6, 7, 8, 9, 10, 11, 12] z z_480 := oz_479.r (by decide) ez_480
                            intro z_481 ez_481
                            have f_516 : 0 ≤ (gI z_480 12).toInt ∧ (gI z_480 12).toInt ≤ 16 := tz_480.1 12
                            have q_517 := (((((((((((show (gI z_480 12).toInt = (gI z_479 12).toInt by rw [ez_480]; rfl)).trans (show (gI z_479 12).toInt = (gI z_478 12).toInt by rw [ez_479]; rfl)).trans (show (gI z_478 12).toInt = (gI z_477 12).toInt by rw [ez_478]; rfl)).trans (show (gI z_477 12).toInt = (gI z_476 12).toInt by rw [ez_477]; rfl)).trans (show (gI z_476 12).toInt = (gI z_475 12).toInt by rw [ez_476]; rfl)).trans (show (gI z_475 12).toInt = (gI z_474 12).toInt by rw [ez_475]; rfl)).trans (show (gI z_474 12).toInt = (gI z_473 12).toInt by rw [ez_474]; rfl)).trans (show (gI z_473 12).toInt = (gI z_472 12).toInt by rw [ez_473]; rfl)).trans (show (gI z_472 12).toInt = (gI z_471 12).toInt by rw [ez_472]; rfl)).trans (show (gI z_471 12).toInt = (gI z1 12).toInt by rw [ez_471]; rfl)).trans (show (gI z1 12).toInt = (gI z 12).toInt by rw [ez1]; rfl)
                            have tz_481 : TM z_481 := by rw [ez_481]; exact Ty_wI tz_480 (show 0 ≤ ((gI z_480 12) + (1 : Int32)).toInt ∧ ((gI z_480 12) + (1 : Int32)).toInt ≤ 16 from by rw [(a_add rfl (show (1 : Int32).toInt = 1 by decide) (by omega) (by omega))]; omega)
                            have oz_481 : Same [0, 1, 12] [6, 7, 8, 9, 10, 11, 12] z z_481 := oz_480.i (by decide) ez_481
                            have f_518 : 0 ≤ (gI z_481 12).toInt ∧ (gI z_481 12).toInt ≤ 16 := tz_481.1 12
                            have q_519 := (show (gI z_481 12).toInt = ((gI z_480 12) + (1 : Int32)).toInt by rw [ez_481]; rfl)
                            have q_520 : ((gI z_480 12) + (1 : Int32)).toInt = ((gI z_480 12).toInt + (1)) := (a_add rfl (show (1 : Int32).toInt = 1 by decide) (by omega) (by omega))
                            have g_521 : ((gI z_481 12) - (1 : Int32)).toInt = ((gI z_481 12).toInt - (1)) := (a_sub rfl (show (1 : Int32).toInt = 1 by decide) (by omega) (by omega))
                            refine s_X9_told ((gI z_481 12) - ((1 : Int32))) z_481 _ tz_481  (fun r_482 z_483 tz_483 o_523 hp_522 => ?_)
                            have oz_483 : Same [0, 1, 12] [6, 7, 8, 9, 10, 11, 12] z z_483 := oz_481.tr o_523 (by decide) (by decide)
                            exact hk r_482 z_483 tz_483 oz_483 trivial
                          · skip
                            have f_524 : 0 ≤ (gI z1 12).toInt ∧ (gI z1 12).toInt ≤ 16 := tz1.1 12
                            have q_525 := (show (gI z1 12).toInt = (gI z 12).toInt by rw [ez1]; rfl)
                            have f_526 : 0 ≤ (gI z 12).toInt ∧ (gI z 12).toInt ≤ 16 := ht.1 12
                            have i_527 := i_eq rfl (show (16 : Int32).toInt = 16 by decide) c_470
                            have g_528 : (-5 : Int32).toInt = -5 := by decide
                            refine s_X9_told ((-5 : Int32)) z1 _ tz1  (fun r_484 z_485 tz_485 o_530 hp_529 => ?_)
                            have oz_485 : Same [0, 1, 12] [6, 7, 8, 9, 10, 11, 12] z z_485 := oz1.tr o_530 (by decide) (by decide)
                            exact hk r_484 z_485 tz_485 oz_485 trivial
                        · subst er_468
                          have f_531 : 0 ≤ (gI z1 8).toInt ∧ (gI z1 8).toInt ≤ 4 := tz1.1 8
                          have q_532 := (show (gI z1 8).toInt = (gI z 8).toInt by rw [ez1]; rfl)
                          have f_533 : 0 ≤ (gI z 8).toInt ∧ (gI z 8).toInt ≤ 4 := ht.1 8
                          refine ⟨fun hc => absurd hc (by decide), fun _ => ?_⟩
                          have g_534 : (-2 : Int32).toInt = -2 := by decide
                          refine s_X9_told ((-2 : Int32)) z1 _ tz1  (fun r_486 z_487 tz_487 o_536 hp_535 => ?_)
                          have oz_487 : Same [0, 1, 12] [6, 7, 8, 9, 10, 11, 12] z z_487 := oz1.tr o_536 (by decide) (by decide)
                          exact hk r_486 z_487 tz_487 oz_487 trivial
                      · subst er_388
                        refine ⟨fun _ => ?_, fun hc => absurd (show ((0 : Int32)) = ((0 : Int32)) by decide) hc⟩
                        refine hK_191  ?_
                        refine hK_190 ((0 : Int32)) ?_
                        refine ⟨fun hc => absurd hc (by decide), fun _ => ?_⟩
                        have g_560 : (-1 : Int32).toInt = -1 := by decide
                        refine s_X9_told ((-1 : Int32)) z1 _ tz1  (fun r_558 z_559 tz_559 o_562 hp_561 => ?_)
                        have oz_559 : Same [0, 1, 12] [6, 7, 8, 9, 10, 11, 12] z z_559 := oz1.tr o_562 (by decide) (by decide)
                        exact hk r_558 z_559 tz_559 oz_559 trivial
                  · subst er_200
                    refine ⟨fun _ => ?_, fun hc => absurd (show ((0 : Int32)) = ((0 : Int32)) by decide) hc⟩
                    refine hK_191  ?_
                    refine hK_190 ((0 : Int32)) ?_
                    refine ⟨fun hc => absurd hc (by decide), fun _ => ?_⟩
                    have g_586 : (-1 : Int32).toInt = -1 := by decide
                    refine s_X9_told ((-1 : Int32)) z1 _ tz1  (fun r_584 z_585 tz_585 o_588 hp_587 => ?_)
                    have oz_585 : Same [0, 1, 12] [6, 7, 8, 9, 10, 11, 12] z z_585 := oz1.tr o_588 (by decide) (by decide)
                    exact hk r_584 z_585 tz_585 oz_585 trivial
              · skip
                have i_589 := i_nlt rfl (show (2 : Int32).toInt = 2 by decide) c_187
                have g_590 : (Int32.toInt64 b6).toInt = b6.toInt := (a_wide rfl)
                have g_591 : (0 : Int64).toInt = 0 := by decide
                have g_592 : (5000 : Int64).toInt = 5000 := by decide
                refine s_X9_in (Int32.toInt64 b6) ((0 : Int64)) ((5000 : Int64)) z1 _ tz1  (fun r_188 hp_593 => ?_)
                rcases hp_593 with ⟨er_188, hp_593⟩ | ⟨er_188, hp_593⟩
                · subst er_188
                  refine ⟨fun hc => absurd hc (by decide), fun _ => ?_⟩
                  refine hK_192  ?_
                  intro K_594 hK_602
                  refine ⟨fun c_599 => ?_, fun c_599 => ?_⟩
                  · skip
                    have i_603 := i_lt rfl (show (3 : Int32).toInt = 3 by decide) c_599
                    refine hK_602  ?_
                    intro K_604 hK_608
                    refine ⟨fun c_605 => ?_, fun c_605 => ?_⟩
                    · skip
                      have i_609 := i_lt rfl (show (4 : Int32).toInt = 4 by decide) c_605
                      refine hK_608  ?_
                      refine hK_190 ((1 : Int32)) ?_
                      refine ⟨fun _ => ?_, fun hc => absurd hc (by decide)⟩
                      refine s_X9_isHome b1 z1 _ tz1  (fun r_611 hp_633 => ?_)
                      rcases hp_633 with ⟨er_611, hp_633⟩ | ⟨er_611, hp_633⟩
                      · subst er_611
                        have f_634 : 0 ≤ (gI z1 8).toInt ∧ (gI z1 8).toInt ≤ 4 := tz1.1 8
                        have q_635 := (show (gI z1 8).toInt = (gI z 8).toInt by rw [ez1]; rfl)
                        have f_636 : 0 ≤ (gI z 8).toInt ∧ (gI z 8).toInt ≤ 4 := ht.1 8
                        refine ⟨fun _ => ?_, fun hc => absurd hc (by decide)⟩
                        refine ⟨fun c_613 => ?_, fun c_613 => ?_⟩
                        · skip
                          have f_637 : 0 ≤ (gI z1 12).toInt ∧ (gI z1 12).toInt ≤ 16 := tz1.1 12
                          have q_638 := (show (gI z1 12).toInt = (gI z 12).toInt by rw [ez1]; rfl)
                          have f_639 : 0 ≤ (gI z 12).toInt ∧ (gI z 12).toInt ≤ 16 := ht.1 12
                          have i_640 := i_ne rfl (show (16 : Int32).toInt = 16 by decide) c_613
                          refine ⟨vin rfl (by omega) (by omega), ?_⟩
                          intro z_614 ez_614
                          have tz_614 : TM z_614 := by rw [ez_614]; exact Ty_wR tz1 (show 0 ≤ b1.toInt ∧ b1.toInt ≤ 3 from by omega)
                          have oz_614 : Same [0, 1, 12] [6, 7, 8, 9, 10, 11, 12] z z_614 := oz1.r (by decide) ez_614
                          have f_641 : 0 ≤ (gI z_614 12).toInt ∧ (gI z_614 12).toInt ≤ 16 := tz_614.1 12
                          have q_642 := ((show (gI z_614 12).toInt = (gI z1 12).toInt by rw [ez_614]; rfl)).trans (show (gI z1 12).toInt = (gI z 12).toInt by rw [ez1]; rfl)
                          refine ⟨vin rfl (by omega) (by omega), ?_⟩
                          intro z_615 ez_615
                          have tz_615 : TM z_615 := by rw [ez_615]; exact Ty_wR tz_614 (show 0 ≤ b2.toInt ∧ b2.toInt ≤ 167 from by omega)
                          have oz_615 : Same [0, 1, 12] [6, 7, 8, 9, 10, 11, 12] z z_615 := oz_614.r (by decide) ez_615
                          have f_643 : 0 ≤ (gI z_615 12).toInt ∧ (gI z_615 12).toInt ≤ 16 := tz_615.1 12
                          have q_644 := (((show (gI z_615 12).toInt = (gI z_614 12).toInt by rw [ez_615]; rfl)).trans (show (gI z_614 12).toInt = (gI z1 12).toInt by rw [ez_614]; rfl)).trans (show (gI z1 12).toInt = (gI z 12).toInt by rw [ez1]; rfl)
                          refine ⟨vin rfl (by omega) (by omega), ?_⟩
                          intro z_616 ez_616
                          have tz_616 : TM z_616 := by rw [ez_616]; exact Ty_wR tz_615 (show 0 ≤ b3.toInt ∧ b3.toInt ≤ 167 from by omega)
                          have oz_616 : Same [0, 1, 12] [6, 7, 8, 9, 10, 11, 12] z z_616 := oz_615.r (by decide) ez_616
                          have f_645 : 0 ≤ (gI z_616 12).toInt ∧ (gI z_616 12).toInt ≤ 16 := tz_616.1 12
                          have q_646 := ((((show (gI z_616 12).toInt = (gI z_615 12).toInt by rw [ez_616]; rfl)).trans (show (gI z_615 12).toInt = (gI z_614 12).toInt by rw [ez_615]; rfl)).trans (show (gI z_614 12).toInt = (gI z1 12).toInt by rw [ez_614]; rfl)).trans (show (gI z1 12).toInt = (gI z 12).toInt by rw [ez1]; rfl)
                          refine ⟨vin rfl (by omega) (by omega), ?_⟩
                          intro z_617 ez_617
                          have tz_617 : TM z_617 := by rw [ez_617]; exact Ty_wR tz_616 (show 0 ≤ b4.toInt ∧ b4.toInt ≤ 4 from by omega)
                          have oz_617 : Same [0, 1, 12] [6, 7, 8, 9, 10, 11, 12] z z_617 := oz_616.r (by decide) ez_617
                          have f_647 : 0 ≤ (gI z_617 12).toInt ∧ (gI z_617 12).toInt ≤ 16 := tz_617.1 12
                          have q_648 := (((((show (gI z_617 12).toInt = (gI z_616 12).toInt by rw [ez_617]; rfl)).trans (show (gI z_616 12).toInt = (gI z_615 12).toInt by rw [ez_616]; rfl)).trans (show (gI z_615 12).toInt = (gI z_614 12).toInt by rw [ez_615]; rfl)).trans (show (gI z_614 12).toInt = (gI z1 12).toInt by rw [ez_614]; rfl)).trans (show (gI z1 12).toInt = (gI z 12).toInt by rw [ez1]; rfl)
                          refine ⟨vin (a_mul (show (4 : Int32).toInt = 4 by decide) rfl (by omega) (by omega)) (by omega) (by omega), ?_⟩
                          intro z_618 ez_618
                          have tz_618 : TM z_618 := by rw [ez_618]; exact Ty_wR tz_617 trivial
                          have oz_618 : Same [0, 1, 12] [6, 7, 8, 9, 10, 11, 12] z z_618 := oz_617.r (by decide) ez_618
                          have f_649 : 0 ≤ (gI z_618 12).toInt ∧ (gI z_618 12).toInt ≤ 16 := tz_618.1 12
                          have q_650 := ((((((show (gI z_618 12).toInt = (gI z_617 12).toInt by rw [ez_618]; rfl)).trans (show (gI z_617 12).toInt = (gI z_616 12).toInt by rw [ez_617]; rfl)).trans (show (gI z_616 12).toInt = (gI z_615 12).toInt by rw [ez_616]; rfl)).trans (show (gI z_615 12).toInt = (gI z_614 12).toInt by rw [ez_615]; rfl)).trans (show (gI z_614 12).toInt = (gI z1 12).toInt by rw [ez_614]; rfl)).trans (show (gI z1 12).toInt = (gI z 12).toInt by rw [ez1]; rfl)
                          refine ⟨vin (a_add (a_mul (show (4 : Int32).toInt = 4 by decide) rfl (by omega) (by omega)) (show (1 : Int32).toInt = 1 by decide) (by omega) (by omega)) (by omega) (by omega), ?_⟩
                          intro z_619 ez_619
                          have tz_619 : TM z_619 := by rw [ez_619]; exact Ty_wR tz_618 trivial
                          have oz_619 : Same [0, 1, 12] [6, 7, 8, 9, 10, 11, 12] z z_619 := oz_618.r (by decide) ez_619
                          have f_651 : 0 ≤ (gI z_619 12).toInt ∧ (gI z_619 12).toInt ≤ 16 := tz_619.1 12
                          have q_652 := (((((((show (gI z_619 12).toInt = (gI z_618 12).toInt by rw [ez_619]; rfl)).trans (show (gI z_618 12).toInt = (gI z_617 12).toInt by rw [ez_618]; rfl)).trans (show (gI z_617 12).toInt = (gI z_616 12).toInt by rw [ez_617]; rfl)).trans (show (gI z_616 12).toInt = (gI z_615 12).toInt by rw [ez_616]; rfl)).trans (show (gI z_615 12).toInt = (gI z_614 12).toInt by rw [ez_615]; rfl)).trans (show (gI z_614 12).toInt = (gI z1 12).toInt by rw [ez_614]; rfl)).trans (show (gI z1 12).toInt = (gI z 12).toInt by rw [ez1]; rfl)
                          refine ⟨vin (a_add (a_mul (show (4 : Int32).toInt = 4 by decide) rfl (by omega) (by omega)) (show (2 : Int32).toInt = 2 by decide) (by omega) (by omega)) (by omega) (by omega), ?_⟩
                          intro z_620 ez_620
                          have tz_620 : TM z_620 := by rw [ez_620]; exact Ty_wR tz_619 trivial
                          have oz_620 : Same [0, 1, 12] [6, 7, 8, 9, 10, 11, 12] z z_620 := oz_619.r (by decide) ez_620
                          have f_653 : 0 ≤ (gI z_620 12).toInt ∧ (gI z_620 12).toInt ≤ 16 := tz_620.1 12
                          have q_654 := ((((((((show (gI z_620 12).toInt = (gI z_619 12).toInt by rw [ez_620]; rfl)).trans (show (gI z_619 12).toInt = (gI z_618 12).toInt by rw [ez_619]; rfl)).trans (show (gI z_618 12).toInt = (gI z_617 12).toInt by rw [ez_618]; rfl)).trans (show (gI z_617 12).toInt = (gI z_616 12).toInt by rw [ez_617]; rfl)).trans (show (gI z_616 12).toInt = (gI z_615 12).toInt by rw [ez_616]; rfl)).trans (show (gI z_615 12).toInt = (gI z_614 12).toInt by rw [ez_615]; rfl)).trans (show (gI z_614 12).toInt = (gI z1 12).toInt by rw [ez_614]; rfl)).trans (show (gI z1 12).toInt = (gI z 12).toInt by rw [ez1]; rfl)
                          refine ⟨vin (a_add (a_mul (show (4 : Int32).toInt = 4 by decide) rfl (by omega) (by omega)) (show (3 : Int32).toInt = 3 by decide) (by omega) (by omega)) (by omega) (by omega), ?_⟩
                          intro z_621 ez_621
                          have tz_621 : TM z_621 := by rw [ez_621]; exact Ty_wR tz_620 trivial
                          have oz_621 : Same [0, 1, 12] [6, 7, 8, 9, 10, 11, 12] z z_621 := oz_620.r (by decide) ez_621
                          have f_655 : 0 ≤ (gI z_621 12).toInt ∧ (gI z_621 12).toInt ≤ 16 := tz_621.1 12
                          have q_656 := (((((((((show (gI z_621 12).toInt = (gI z_620 12).toInt by rw [ez_621]; rfl)).trans (show (gI z_620 12).toInt = (gI z_619 12).toInt by rw [ez_620]; rfl)).trans (show (gI z_619 12).toInt = (gI z_618 12).toInt by rw [ez_619]; rfl)).trans (show (gI z_618 12).toInt = (gI z_617 12).toInt by rw [ez_618]; rfl)).trans (show (gI z_617 12).toInt = (gI z_616 12).toInt by rw [ez_617]; rfl)).trans (show (gI z_616 12).toInt = (gI z_615 12).toInt by rw [ez_616]; rfl)).trans (show (gI z_615 12).toInt = (gI z_614 12).toInt by rw [ez_615]; rfl)).trans (show (gI z_614 12).toInt = (gI z1 12).toInt by rw [ez_614]; rfl)).trans (show (gI z1 12).toInt = (gI z 12).toInt by rw [ez1]; rfl)
                          refine ⟨vin rfl (by omega) (by omega), ?_⟩
                          intro z_622 ez_622
                          have tz_622 : TM z_622 := by rw [ez_622]; exact Ty_wR tz_621 trivial
                          have oz_622 : Same [0, 1, 12] [6, 7, 8, 9, 10, 11, 12] z z_622 := oz_621.r (by decide) ez_622
                          have f_657 : 0 ≤ (gI z_622 12).toInt ∧ (gI z_622 12).toInt ≤ 16 := tz_622.1 12
                          have q_658 := ((((((((((show (gI z_622 12).toInt = (gI z_621 12).toInt by rw [ez_622]; rfl)).trans (show (gI z_621 12).toInt = (gI z_620 12).toInt by rw [ez_621]; rfl)).trans (show (gI z_620 12).toInt = (gI z_619 12).toInt by rw [ez_620]; rfl)).trans (show (gI z_619 12).toInt = (gI z_618 12).toInt by rw [ez_619]; rfl)).trans (show (gI z_618 12).toInt = (gI z_617 12).toInt by rw [ez_618]; rfl)).trans (show (gI z_617 12).toInt = (gI z_616 12).toInt by rw [ez_617]; rfl)).trans (show (gI z_616 12).toInt = (gI z_615 12).toInt by rw [ez_616]; rfl)).trans (show (gI z_615 12).toInt = (gI z_614 12).toInt by rw [ez_615]; rfl)).trans (show (gI z_614 12).toInt = (gI z1 12).toInt by rw [ez_614]; rfl)).trans (show (gI z1 12).toInt = (gI z 12).toInt by rw [ez1]; rfl)
                          refine ⟨vin rfl (by omega) (by omega), ?_⟩
                          intro z_623 ez_623
                          have tz_623 : TM z_623 := by rw [ez_623]; exact Ty_wR tz_622 trivial
                          have oz_623 : Same [0, 1, 12] [6, 7, 8, 9, 10, 11, 12] z z_623 := oz_622.r (by decide) ez_623
                          intro z_624 ez_624
                          have f_659 : 0 ≤ (gI z_623 12).toInt ∧ (gI z_623 12).toInt ≤ 16 := tz_623.1 12
                          have q_660 := (((((((((((show (gI z_623 12).toInt = (gI z_622 12).toInt by rw [ez_623]; rfl)).trans (show (gI z_622 12).toInt = (gI z_621 12).toInt by rw [ez_622]; rfl)).trans (show (gI z_621 12).toInt = (gI z_620 12).toInt by rw [ez_621]; rfl)).trans (show (gI z_620 12).toInt = (gI z_619 12).toInt by rw [ez_620]; rfl)).trans (show (gI z_619 12).toInt = (gI z_618 12).toInt by rw [ez_619]; rfl)).trans (show (gI z_618 12).toInt = (gI z_617 12).toInt by rw [ez_618]; rfl)).trans (show (gI z_617 12).toInt = (gI z_616 12).toInt by rw [ez_617]; rfl)).trans (show (gI z_616 12).toInt = (gI z_615 12).toInt by rw [ez_616]; rfl)).trans (show (gI z_615 12).toInt = (gI z_614 12).toInt by rw [ez_615]; rfl)).trans (show (gI z_614 12).toInt = (gI z1 12).toInt by rw [ez_614]; rfl)).trans (show (gI z1 12).toInt = (gI z 12).toInt by rw [ez1]; rfl)
                          have tz_624 : TM z_624 := by rw [ez_624]; exact Ty_wI tz_623 (show 0 ≤ ((gI z_623 12) + (1 : Int32)).toInt ∧ ((gI z_623 12) + (1 : Int32)).toInt ≤ 16 from by rw [(a_add rfl (show (1 : Int32).toInt = 1 by decide) (by omega) (by omega))]; omega)
                          have oz_624 : Same [0, 1, 12] [6, 7, 8, 9, 10, 11, 12] z z_624 := oz_623.i (by decide) ez_624
                          have f_661 : 0 ≤ (gI z_624 12).toInt ∧ (gI z_624 12).toInt ≤ 16 := tz_624.1 12
                          have q_662 := (show (gI z_624 12).toInt = ((gI z_623 12) + (1 : Int32)).toInt by rw [ez_624]; rfl)
                          have q_663 : ((gI z_623 12) + (1 : Int32)).toInt = ((gI z_623 12).toInt + (1)) := (a_add rfl (show (1 : Int32).toInt = 1 by decide) (by omega) (by omega))
                          have g_664 : ((gI z_624 12) - (1 : Int32)).toInt = ((gI z_624 12).toInt - (1)) := (a_sub rfl (show (1 : Int32).toInt = 1 by decide) (by omega) (by omega))
                          refine s_X9_told ((gI z_624 12) - ((1 : Int32))) z_624 _ tz_624  (fun r_625 z_626 tz_626 o_666 hp_665 => ?_)
                          have oz_626 : Same [0, 1, 12] [6, 7, 8, 9, 10, 11, 12] z z_626 := oz_624.tr o_666 (by decide) (by decide)
                          exact hk r_625 z_626 tz_626 oz_626 trivial
                        · skip
                          have f_667 : 0 ≤ (gI z1 12).toInt ∧ (gI z1 12).toInt ≤ 16 := tz1.1 12
                          have q_668 := (show (gI z1 12).toInt = (gI z 12).toInt by rw [ez1]; rfl)
                          have f_669 : 0 ≤ (gI z 12).toInt ∧ (gI z 12).toInt ≤ 16 := ht.1 12
                          have i_670 := i_eq rfl (show (16 : Int32).toInt = 16 by decide) c_613
                          have g_671 : (-5 : Int32).toInt = -5 := by decide
                          refine s_X9_told ((-5 : Int32)) z1 _ tz1  (fun r_627 z_628 tz_628 o_673 hp_672 => ?_)
                          have oz_628 : Same [0, 1, 12] [6, 7, 8, 9, 10, 11, 12] z z_628 := oz1.tr o_673 (by decide) (by decide)
                          exact hk r_627 z_628 tz_628 oz_628 trivial
                      · subst er_611
                        have f_674 : 0 ≤ (gI z1 8).toInt ∧ (gI z1 8).toInt ≤ 4 := tz1.1 8
                        have q_675 := (show (gI z1 8).toInt = (gI z 8).toInt by rw [ez1]; rfl)
                        have f_676 : 0 ≤ (gI z 8).toInt ∧ (gI z 8).toInt ≤ 4 := ht.1 8
                        refine ⟨fun hc => absurd hc (by decide), fun _ => ?_⟩
                        have g_677 : (-2 : Int32).toInt = -2 := by decide
                        refine s_X9_told ((-2 : Int32)) z1 _ tz1  (fun r_629 z_630 tz_630 o_679 hp_678 => ?_)
                        have oz_630 : Same [0, 1, 12] [6, 7, 8, 9, 10, 11, 12] z z_630 := oz1.tr o_679 (by decide) (by decide)
                        exact hk r_629 z_630 tz_630 oz_630 trivial
                    · skip
                      have i_680 := i_nlt rfl (show (4 : Int32).toInt = 4 by decide) c_605
                      have g_681 : (Int32.toInt64 b8).toInt = b8.toInt := (a_wide rfl)
                      have g_682 : (0 : Int64).toInt = 0 := by decide
                      have g_683 : (5000 : Int64).toInt = 5000 := by decide
                      refine s_X9_in (Int32.toInt64 b8) ((0 : Int64)) ((5000 : Int64)) z1 _ tz1  (fun r_606 hp_684 => ?_)
                      rcases hp_684 with ⟨er_606, hp_684⟩ | ⟨er_606, hp_684⟩
                      · subst er_606
                        refine ⟨fun hc => absurd hc (by decide), fun _ => ?_⟩
                        refine hK_608  ?_
                        refine hK_190 ((1 : Int32)) ?_
                        refine ⟨fun _ => ?_, fun hc => absurd hc (by decide)⟩
                        refine s_X9_isHome b1 z1 _ tz1  (fun r_686 hp_708 => ?_)
                        rcases hp_708 with ⟨er_686, hp_708⟩ | ⟨er_686, hp_708⟩
                        · subst er_686
                          have f_709 : 0 ≤ (gI z1 8).toInt ∧ (gI z1 8).toInt ≤ 4 := tz1.1 8
                          have q_710 := (show (gI z1 8).toInt = (gI z 8).toInt by rw [ez1]; rfl)
                          have f_711 : 0 ≤ (gI z 8).toInt ∧ (gI z 8).toInt ≤ 4 := ht.1 8
                          refine ⟨fun _ => ?_, fun hc => absurd hc (by decide)⟩
                          refine ⟨fun c_688 => ?_, fun c_688 => ?_⟩
                          · skip
                            have f_712 : 0 ≤ (gI z1 12).toInt ∧ (gI z1 12).toInt ≤ 16 := tz1.1 12
                            have q_713 := (show (gI z1 12).toInt = (gI z 12).toInt by rw [ez1]; rfl)
                            have f_714 : 0 ≤ (gI z 12).toInt ∧ (gI z 12).toInt ≤ 16 := ht.1 12
                            have i_715 := i_ne rfl (show (16 : Int32).toInt = 16 by decide) c_688
                            refine ⟨vin rfl (by omega) (by omega), ?_⟩
                            intro z_689 ez_689
                            have tz_689 : TM z_689 := by rw [ez_689]; exact Ty_wR tz1 (show 0 ≤ b1.toInt ∧ b1.toInt ≤ 3 from by omega)
                            have oz_689 : Same [0, 1, 12] [6, 7, 8, 9, 10, 11, 12] z z_689 := oz1.r (by decide) ez_689
                            have f_716 : 0 ≤ (gI z_689 12).toInt ∧ (gI z_689 12).toInt ≤ 16 := tz_689.1 12
                            have q_717 := ((show (gI z_689 12).toInt = (gI z1 12).toInt by rw [ez_689]; rfl)).trans (show (gI z1 12).toInt = (gI z 12).toInt by rw [ez1]; rfl)
                            refine ⟨vin rfl (by omega) (by omega), ?_⟩
                            intro z_690 ez_690
                            have tz_690 : TM z_690 := by rw [ez_690]; exact Ty_wR tz_689 (show 0 ≤ b2.toInt ∧ b2.toInt ≤ 167 from by omega)
                            have oz_690 : Same [0, 1, 12] [6, 7, 8, 9, 10, 11, 12] z z_690 := oz_689.r (by decide) ez_690
                            have f_718 : 0 ≤ (gI z_690 12).toInt ∧ (gI z_690 12).toInt ≤ 16 := tz_690.1 12
                            have q_719 := (((show (gI z_690 12).toInt = (gI z_689 12).toInt by rw [ez_690]; rfl)).trans (show (gI z_689 12).toInt = (gI z1 12).toInt by rw [ez_689]; rfl)).trans (show (gI z1 12).toInt = (gI z 12).toInt by rw [ez1]; rfl)
                            refine ⟨vin rfl (by omega) (by omega), ?_⟩
                            intro z_691 ez_691
                            have tz_691 : TM z_691 := by rw [ez_691]; exact Ty_wR tz_690 (show 0 ≤ b3.toInt ∧ b3.toInt ≤ 167 from by omega)
                            have oz_691 : Same [0, 1, 12] [6, 7, 8, 9, 10, 11, 12] z z_691 := oz_690.r (by decide) ez_691
                            have f_720 : 0 ≤ (gI z_691 12).toInt ∧ (gI z_691 12).toInt ≤ 16 := tz_691.1 12
                            have q_721 := ((((show (gI z_691 12).toInt = (gI z_690 12).toInt by rw [ez_691]; rfl)).trans (show (gI z_690 12).toInt = (gI z_689 12).toInt by rw [ez_690]; rfl)).trans (show (gI z_689 12).toInt = (gI z1 12).toInt by rw [ez_689]; rfl)).trans (show (gI z1 12).toInt = (gI z 12).toInt by rw [ez1]; rfl)
                            refine ⟨vin rfl (by omega) (by omega), ?_⟩
                            intro z_692 ez_692
                            have tz_692 : TM z_692 := by rw [ez_692]; exact Ty_wR tz_691 (show 0 ≤ b4.toInt ∧ b4.toInt ≤ 4 from by omega)
                            have oz_692 : Same [0, 1, 12] [6, 7, 8, 9, 10, 11, 12] z z_692 := oz_691.r (by decide) ez_692
                            have f_722 : 0 ≤ (gI z_692 12).toInt ∧ (gI z_692 12).toInt ≤ 16 := tz_692.1 12
                            have q_723 := (((((show (gI z_692 12).toInt = (gI z_691 12).toInt by rw [ez_692]; rfl)).trans (show (gI z_691 12).toInt = (gI z_690 12).toInt by rw [ez_691]; rfl)).trans (show (gI z_690 12).toInt = (gI z_689 12).toInt by rw [ez_690]; rfl)).trans (show (gI z_689 12).toInt = (gI z1 12).toInt by rw [ez_689]; rfl)).trans (show (gI z1 12).toInt = (gI z 12).toInt by rw [ez1]; rfl)
                            refine ⟨vin (a_mul (show (4 : Int32).toInt = 4 by decide) rfl (by omega) (by omega)) (by omega) (by omega), ?_⟩
                            intro z_693 ez_693
                            have tz_693 : TM z_693 := by rw [ez_693]; exact Ty_wR tz_692 trivial
                            have oz_693 : Same [0, 1, 12] [6, 7, 8, 9, 10, 11, 12] z z_693 := oz_692.r (by decide) ez_693
                            have f_724 : 0 ≤ (gI z_693 12).toInt ∧ (gI z_693 12).toInt ≤ 16 := tz_693.1 12
                            have q_725 := ((((((show (gI z_693 12).toInt = (gI z_692 12).toInt by rw [ez_693]; rfl)).trans (show (gI z_692 12).toInt = (gI z_691 12).toInt by rw [ez_692]; rfl)).trans (show (gI z_691 12).toInt = (gI z_690 12).toInt by rw [ez_691]; rfl)).trans (show (gI z_690 12).toInt = (gI z_689 12).toInt by rw [ez_690]; rfl)).trans (show (gI z_689 12).toInt = (gI z1 12).toInt by rw [ez_689]; rfl)).trans (show (gI z1 12).toInt = (gI z 12).toInt by rw [ez1]; rfl)
                            refine ⟨vin (a_add (a_mul (show (4 : Int32).toInt = 4 by decide) rfl (by omega) (by omega)) (show (1 : Int32).toInt = 1 by decide) (by omega) (by omega)) (by omega) (by omega), ?_⟩
                            intro z_694 ez_694
                            have tz_694 : TM z_694 := by rw [ez_694]; exact Ty_wR tz_693 trivial
                            have oz_694 : Same [0, 1, 12] [6, 7, 8, 9, 10, 11, 12] z z_694 := oz_693.r (by decide) ez_694
                            have f_726 : 0 ≤ (gI z_694 12).toInt ∧ (gI z_694 12).toInt ≤ 16 := tz_694.1 12
                            have q_727 := (((((((show (gI z_694 12).toInt = (gI z_693 12).toInt by rw [ez_694]; rfl)).trans (show (gI z_693 12).toInt = (gI z_692 12).toInt by rw [ez_693]; rfl)).trans (show (gI z_692 12).toInt = (gI z_691 12).toInt by rw [ez_692]; rfl)).trans (show (gI z_691 12).toInt = (gI z_690 12).toInt by rw [ez_691]; rfl)).trans (show (gI z_690 12).toInt = (gI z_689 12).toInt by rw [ez_690]; rfl)).trans (show (gI z_689 12).toInt = (gI z1 12).toInt by rw [ez_689]; rfl)).trans (show (gI z1 12).toInt = (gI z 12).toInt by rw [ez1]; rfl)
                            refine ⟨vin (a_add (a_mul (show (4 : Int32).toInt = 4 by decide) rfl (by omega) (by omega)) (show (2 : Int32).toInt = 2 by decide) (by omega) (by omega)) (by omega) (by omega), ?_⟩
                            intro z_695 ez_695
                            have tz_695 : TM z_695 := by rw [ez_695]; exact Ty_wR tz_694 trivial
                            have oz_695 : Same [0, 1, 12] [6, 7, 8, 9, 10, 11, 12] z z_695 := oz_694.r (by decide) ez_695
                            have f_728 : 0 ≤ (gI z_695 12).toInt ∧ (gI z_695 12).toInt ≤ 16 := tz_695.1 12
                            have q_729 := ((((((((show (gI z_695 12).toInt = (gI z_694 12).toInt by rw [ez_695]; rfl)).trans (show (gI z_694 12).toInt = (gI z_693 12).toInt by rw [ez_694]; rfl)).trans (show (gI z_693 12).toInt = (gI z_692 12).toInt by rw [ez_693]; rfl)).trans (show (gI z_692 12).toInt = (gI z_691 12).toInt by rw [ez_692]; rfl)).trans (show (gI z_691 12).toInt = (gI z_690 12).toInt by rw [ez_691]; rfl)).trans (show (gI z_690 12).toInt = (gI z_689 12).toInt by rw [ez_690]; rfl)).trans (show (gI z_689 12).toInt = (gI z1 12).toInt by rw [ez_689]; rfl)).trans (show (gI z1 12).toInt = (gI z 12).toInt by rw [ez1]; rfl)
                            refine ⟨vin (a_add (a_mul (show (4 : Int32).toInt = 4 by decide) rfl (by omega) (by omega)) (show (3 : Int32).toInt = 3 by decide) (by omega) (by omega)) (by omega) (by omega), ?_⟩
                            intro z_696 ez_696
                            have tz_696 : TM z_696 := by rw [ez_696]; exact Ty_wR tz_695 trivial
                            have oz_696 : Same [0, 1, 12] [6, 7, 8, 9, 10, 11, 12] z z_696 := oz_695.r (by decide) ez_696
                            have f_730 : 0 ≤ (gI z_696 12).toInt ∧ (gI z_696 12).toInt ≤ 16 := tz_696.1 12
                            have q_731 := (((((((((show (gI z_696 12).toInt = (gI z_695 12).toInt by rw [ez_696]; rfl)).trans (show (gI z_695 12).toInt = (gI z_694 12).toInt by rw [ez_695]; rfl)).trans (show (gI z_694 12).toInt = (gI z_693 12).toInt by rw [ez_694]; rfl)).trans (show (gI z_693 12).toInt = (gI z_692 12).toInt by rw [ez_693]; rfl)).trans (show (gI z_692 12).toInt = (gI z_691 12).toInt by rw [ez_692]; rfl)).trans (show (gI z_691 12).toInt = (gI z_690 12).toInt by rw [ez_691]; rfl)).trans (show (gI z_690 12).toInt = (gI z_689 12).toInt by rw [ez_690]; rfl)).trans (show (gI z_689 12).toInt = (gI z1 12).toInt by rw [ez_689]; rfl)).trans (show (gI z1 12).toInt = (gI z 12).toInt by rw [ez1]; rfl)
                            refine ⟨vin rfl (by omega) (by omega), ?_⟩
                            intro z_697 ez_697
                            have tz_697 : TM z_697 := by rw [ez_697]; exact Ty_wR tz_696 trivial
                            have oz_697 : Same [0, 1, 12] [6, 7, 8, 9, 10, 11, 12] z z_697 := oz_696.r (by decide) ez_697
                            have f_732 : 0 ≤ (gI z_697 12).toInt ∧ (gI z_697 12).toInt ≤ 16 := tz_697.1 12
                            have q_733 := ((((((((((show (gI z_697 12).toInt = (gI z_696 12).toInt by rw [ez_697]; rfl)).trans (show (gI z_696 12).toInt = (gI z_695 12).toInt by rw [ez_696]; rfl)).trans (show (gI z_695 12).toInt = (gI z_694 12).toInt by rw [ez_695]; rfl)).trans (show (gI z_694 12).toInt = (gI z_693 12).toInt by rw [ez_694]; rfl)).trans (show (gI z_693 12).toInt = (gI z_692 12).toInt by rw [ez_693]; rfl)).trans (show (gI z_692 12).toInt = (gI z_691 12).toInt by rw [ez_692]; rfl)).trans (show (gI z_691 12).toInt = (gI z_690 12).toInt by rw [ez_691]; rfl)).trans (show (gI z_690 12).toInt = (gI z_689 12).toInt by rw [ez_690]; rfl)).trans (show (gI z_689 12).toInt = (gI z1 12).toInt by rw [ez_689]; rfl)).trans (show (gI z1 12).toInt = (gI z 12).toInt by rw [ez1]; rfl)
                            refine ⟨vin rfl (by omega) (by omega), ?_⟩
                            intro z_698 ez_698
                            have tz_698 : TM z_698 := by rw [ez_698]; exact Ty_wR tz_697 trivial
                            have oz_698 : Same [0, 1, 12] [6, 7, 8, 9, 10, 11, 12] z z_698 := oz_697.r (by decide) ez_698
                            intro z_699 ez_699
                            have f_734 : 0 ≤ (gI z_698 12).toInt ∧ (gI z_698 12).toInt ≤ 16 := tz_698.1 12
                            have q_735 := (((((((((((show (gI z_698 12).toInt = (gI z_697 12).toInt by rw [ez_698]; rfl)).trans (show (gI z_697 12).toInt = (gI z_696 12).toInt by rw [ez_697]; rfl)).trans (show (gI z_696 12).toInt = (gI z_695 12).toInt by rw [ez_696]; rfl)).trans (show (gI z_695 12).toInt = (gI z_694 12).toInt by rw [ez_695]; rfl)).trans (show (gI z_694 12).toInt = (gI z_693 12).toInt by rw [ez_694]; rfl)).trans (show (gI z_693 12).toInt = (gI z_692 12).toInt by rw [ez_693]; rfl)).trans (show (gI z_692 12).toInt = (gI z_691 12).toInt by rw [ez_692]; rfl)).trans (show (gI z_691 12).toInt = (gI z_690 12).toInt by rw [ez_691]; rfl)).trans (show (gI z_690 12).toInt = (gI z_689 12).toInt by rw [ez_690]; rfl)).trans (show (gI z_689 12).toInt = (gI z1 12).toInt by rw [ez_689]; rfl)).trans (show (gI z1 12).toInt = (gI z 12).toInt by rw [ez1]; rfl)
                            have tz_699 : TM z_699 := by rw [ez_699]; exact Ty_wI tz_698 (show 0 ≤ ((gI z_698 12) + (1 : Int32)).toInt ∧ ((gI z_698 12) + (1 : Int32)).toInt ≤ 16 from by rw [(a_add rfl (show (1 : Int32).toInt = 1 by decide) (by omega) (by omega))]; omega)
                            have oz_699 : Same [0, 1, 12] [6, 7, 8, 9, 10, 11, 12] z z_699 := oz_698.i (by decide) ez_699
                            have f_736 : 0 ≤ (gI z_699 12).toInt ∧ (gI z_699 12).toInt ≤ 16 := tz_699.1 12
                            have q_737 := (show (gI z_699 12).toInt = ((gI z_698 12) + (1 : Int32)).toInt by rw [ez_699]; rfl)
                            have q_738 : ((gI z_698 12) + (1 : Int32)).toInt = ((gI z_698 12).toInt + (1)) := (a_add rfl (show (1 : Int32).toInt = 1 by decide) (by omega) (by omega))
                            have g_739 : ((gI z_699 12) - (1 : Int32)).toInt = ((gI z_699 12).toInt - (1)) := (a_sub rfl (show (1 : Int32).toInt = 1 by decide) (by omega) (by omega))
                            refine s_X9_told ((gI z_699 12) - ((1 : Int32))) z_699 _ tz_699  (fun r_700 z_701 tz_701 o_741 hp_740 => ?_)
                            have oz_701 : Same [0, 1, 12] [6, 7, 8, 9, 10, 11, 12] z z_701 := oz_699.tr o_741 (by decide) (by decide)
                            exact hk r_700 z_701 tz_701 oz_701 trivial
                          · skip
                            have f_742 : 0 ≤ (gI z1 12).toInt ∧ (gI z1 12).toInt ≤ 16 := tz1.1 12
                            have q_743 := (show (gI z1 12).toInt = (gI z 12).toInt by rw [ez1]; rfl)
                            have f_744 : 0 ≤ (gI z 12).toInt ∧ (gI z 12).toInt ≤ 16 := ht.1 12
                            have i_745 := i_eq rfl (show (16 : Int32).toInt = 16 by decide) c_688
                            have g_746 : (-5 : Int32).toInt = -5 := by decide
                            refine s_X9_told ((-5 : Int32)) z1 _ tz1  (fun r_702 z_703 tz_703 o_748 hp_747 => ?_)
                            have oz_703 : Same [0, 1, 12] [6, 7, 8, 9, 10, 11, 12] z z_703 := oz1.tr o_748 (by decide) (by decide)
                            exact hk r_702 z_703 tz_703 oz_703 trivial
                        · subst er_686
                          have f_749 : 0 ≤ (gI z1 8).toInt ∧ (gI z1 8).toInt ≤ 4 := tz1.1 8
                          have q_750 := (show (gI z1 8).toInt = (gI z 8).toInt by rw [ez1]; rfl)
                          have f_751 : 0 ≤ (gI z 8).toInt ∧ (gI z 8).toInt ≤ 4 := ht.1 8
                          refine ⟨fun hc => absurd hc (by decide), fun _ => ?_⟩
                          have g_752 : (-2 : Int32).toInt = -2 := by decide
                          refine s_X9_told ((-2 : Int32)) z1 _ tz1  (fun r_704 z_705 tz_705 o_754 hp_753 => ?_)
                          have oz_705 : Same [0, 1, 12] [6, 7, 8, 9, 10, 11, 12] z z_705 := oz1.tr o_754 (by decide) (by decide)
                          exact hk r_704 z_705 tz_705 oz_705 trivial
                      · subst er_606
                        refine ⟨fun _ => ?_, fun hc => absurd (show ((0 : Int32)) = ((0 : Int32)) by decide) hc⟩
                        refine hK_191  ?_
                        refine hK_190 ((0 : Int32)) ?_
                        refine ⟨fun hc => absurd hc (by decide), fun _ => ?_⟩
                        have g_778 : (-1 : Int32).toInt = -1 := by decide
                        refine s_X9_told ((-1 : Int32)) z1 _ tz1  (fun r_776 z_777 tz_777 o_780 hp_779 => ?_)
                        have oz_777 : Same [0, 1, 12] [6, 7, 8, 9, 10, 11, 12] z z_777 := oz1.tr o_780 (by decide) (by decide)
                        exact hk r_776 z_777 tz_777 oz_777 trivial
                  · skip
                    have i_781 := i_nlt rfl (show (3 : Int32).toInt = 3 by decide) c_599
                    have g_782 : (Int32.toInt64 b7).toInt = b7.toInt := (a_wide rfl)
                    have g_783 : (0 : Int64).toInt = 0 := by decide
                    have g_784 : (5000 : Int64).toInt = 5000 := by decide
                    refine s_X9_in (Int32.toInt64 b7) ((0 : Int64)) ((5000 : Int64)) z1 _ tz1  (fun r_600 hp_785 => ?_)
                    rcases hp_785 with ⟨er_600, hp_785⟩ | ⟨er_600, hp_785⟩
                    · subst er_600
                      refine ⟨fun hc => absurd hc (by decide), fun _ => ?_⟩
                      refine hK_602  ?_
                      intro K_786 hK_790
                      refine ⟨fun c_787 => ?_, fun c_787 => ?_⟩
                      · skip
                        have i_791 := i_lt rfl (show (4 : Int32).toInt = 4 by decide) c_787
                        refine hK_790  ?_
                        refine hK_190 ((1 : Int32)) ?_
                        refine ⟨fun _ => ?_, fun hc => absurd hc (by decide)⟩
                        refine s_X9_isHome b1 z1 _ tz1  (fun r_793 hp_815 => ?_)
                        rcases hp_815 with ⟨er_793, hp_815⟩ | ⟨er_793, hp_815⟩
                        · subst er_793
                          have f_816 : 0 ≤ (gI z1 8).toInt ∧ (gI z1 8).toInt ≤ 4 := tz1.1 8
                          have q_817 := (show (gI z1 8).toInt = (gI z 8).toInt by rw [ez1]; rfl)
                          have f_818 : 0 ≤ (gI z 8).toInt ∧ (gI z 8).toInt ≤ 4 := ht.1 8
                          refine ⟨fun _ => ?_, fun hc => absurd hc (by decide)⟩
                          refine ⟨fun c_795 => ?_, fun c_795 => ?_⟩
                          · skip
                            have f_819 : 0 ≤ (gI z1 12).toInt ∧ (gI z1 12).toInt ≤ 16 := tz1.1 12
                            have q_820 := (show (gI z1 12).toInt = (gI z 12).toInt by rw [ez1]; rfl)
                            have f_821 : 0 ≤ (gI z 12).toInt ∧ (gI z 12).toInt ≤ 16 := ht.1 12
                            have i_822 := i_ne rfl (show (16 : Int32).toInt = 16 by decide) c_795
                            refine ⟨vin rfl (by omega) (by omega), ?_⟩
                            intro z_796 ez_796
                            have tz_796 : TM z_796 := by rw [ez_796]; exact Ty_wR tz1 (show 0 ≤ b1.toInt ∧ b1.toInt ≤ 3 from by omega)
                            have oz_796 : Same [0, 1, 12] [6, 7, 8, 9, 10, 11, 12] z z_796 := oz1.r (by decide) ez_796
                            have f_823 : 0 ≤ (gI z_796 12).toInt ∧ (gI z_796 12).toInt ≤ 16 := tz_796.1 12
                            have q_824 := ((show (gI z_796 12).toInt = (gI z1 12).toInt by rw [ez_796]; rfl)).trans (show (gI z1 12).toInt = (gI z 12).toInt by rw [ez1]; rfl)
                            refine ⟨vin rfl (by omega) (by omega), ?_⟩
                            intro z_797 ez_797
                            have tz_797 : TM z_797 := by rw [ez_797]; exact Ty_wR tz_796 (show 0 ≤ b2.toInt ∧ b2.toInt ≤ 167 from by omega)
                            have oz_797 : Same [0, 1, 12] [6, 7, 8, 9, 10, 11, 12] z z_797 := oz_796.r (by decide) ez_797
                            have f_825 : 0 ≤ (gI z_797 12).toInt ∧ (gI z_797 12).toInt ≤ 16 := tz_797.1 12
                            have q_826 := (((show (gI z_797 12).toInt = (gI z_796 12).toInt by rw [ez_797]; rfl)).trans (show (gI z_796 12).toInt = (gI z1 12).toInt by rw [ez_796]; rfl)).trans (show (gI z1 12).toInt = (gI z 12).toInt by rw [ez1]; rfl)
                            refine ⟨vin rfl (by omega) (by omega), ?_⟩
                            intro z_798 ez_798
                            have tz_798 : TM z_798 := by rw [ez_798]; exact Ty_wR tz_797 (show 0 ≤ b3.toInt ∧ b3.toInt ≤ 167 from by omega)
                            have oz_798 : Same [0, 1, 12] [6, 7, 8, 9, 10, 11, 12] z z_798 := oz_797.r (by decide) ez_798
                            have f_827 : 0 ≤ (gI z_798 12).toInt ∧ (gI z_798 12).toInt ≤ 16 := tz_798.1 12
                            have q_828 := ((((show (gI z_798 12).toInt = (gI z_797 12).toInt by rw [ez_798]; rfl)).trans (show (gI z_797 12).toInt = (gI z_796 12).toInt by rw [ez_797]; rfl)).trans (show (gI z_796 12).toInt = (gI z1 12).toInt by rw [ez_796]; rfl)).trans (show (gI z1 12).toInt = (gI z 12).toInt by rw [ez1]; rfl)
                            refine ⟨vin rfl (by omega) (by omega), ?_⟩
                            intro z_799 ez_799
                            have tz_799 : TM z_799 := by rw [ez_799]; exact Ty_wR tz_798 (show 0 ≤ b4.toInt ∧ b4.toInt ≤ 4 from by omega)
                            have oz_799 : Same [0, 1, 12] [6, 7, 8, 9, 10, 11, 12] z z_799 := oz_798.r (by decide) ez_799
                            have f_829 : 0 ≤ (gI z_799 12).toInt ∧ (gI z_799 12).toInt ≤ 16 := tz_799.1 12
                            have q_830 := (((((show (gI z_799 12).toInt = (gI z_798 12).toInt by rw [ez_799]; rfl)).trans (show (gI z_798 12).toInt = (gI z_797 12).toInt by rw [ez_798]; rfl)).trans (show (gI z_797 12).toInt = (gI z_796 12).toInt by rw [ez_797]; rfl)).trans (show (gI z_796 12).toInt = (gI z1 12).toInt by rw [ez_796]; rfl)).trans (show (gI z1 12).toInt = (gI z 12).toInt by rw [ez1]; rfl)
                            refine ⟨vin (a_mul (show (4 : Int32).toInt = 4 by decide) rfl (by omega) (by omega)) (by omega) (by omega), ?_⟩
                            intro z_800 ez_800
                            have tz_800 : TM z_800 := by rw [ez_800]; exact Ty_wR tz_799 trivial
                            have oz_800 : Same [0, 1, 12] [6, 7, 8, 9, 10, 11, 12] z z_800 := oz_799.r (by decide) ez_800
                            have f_831 : 0 ≤ (gI z_800 12).toInt ∧ (gI z_800 12).toInt ≤ 16 := tz_800.1 12
                            have q_832 := ((((((show (gI z_800 12).toInt = (gI z_799 12).toInt by rw [ez_800]; rfl)).trans (show (gI z_799 12).toInt = (gI z_798 12).toInt by rw [ez_799]; rfl)).trans (show (gI z_798 12).toInt = (gI z_797 12).toInt by rw [ez_798]; rfl)).trans (show (gI z_797 12).toInt = (gI z_796 12).toInt by rw [ez_797]; rfl)).trans (show (gI z_796 12).toInt = (gI z1 12).toInt by rw [ez_796]; rfl)).trans (show (gI z1 12).toInt = (gI z 12).toInt by rw [ez1]; rfl)
                            refine ⟨vin (a_add (a_mul (show (4 : Int32).toInt = 4 by decide) rfl (by omega) (by omega)) (show (1 : Int32).toInt = 1 by decide) (by omega) (by omega)) (by omega) (by omega), ?_⟩
                            intro z_801 ez_801
                            have tz_801 : TM z_801 := by rw [ez_801]; exact Ty_wR tz_800 trivial
                            have oz_801 : Same [0, 1, 12] [6, 7, 8, 9, 10, 11, 12] z z_801 := oz_800.r (by decide) ez_801
                            have f_833 : 0 ≤ (gI z_801 12).toInt ∧ (gI z_801 12).toInt ≤ 16 := tz_801.1 12
                            have q_834 := (((((((show (gI z_801 12).toInt = (gI z_800 12).toInt by rw [ez_801]; rfl)).trans (show (gI z_800 12).toInt = (gI z_799 12).toInt by rw [ez_800]; rfl)).trans (show (gI z_799 12).toInt = (gI z_798 12).toInt by rw [ez_799]; rfl)).trans (show (gI z_798 12).toInt = (gI z_797 12).toInt by rw [ez_798]; rfl)).trans (show (gI z_797 12).toInt = (gI z_796 12).toInt by rw [ez_797]; rfl)).trans (show (gI z_796 12).toInt = (gI z1 12).toInt by rw [ez_796]; rfl)).trans (show (gI z1 12).toInt = (gI z 12).toInt by rw [ez1]; rfl)
                            refine ⟨vin (a_add (a_mul (show (4 : Int32).toInt = 4 by decide) rfl (by omega) (by omega)) (show (2 : Int32).toInt = 2 by decide) (by omega) (by omega)) (by omega) (by omega), ?_⟩
                            intro z_802 ez_802
                            have tz_802 : TM z_802 := by rw [ez_802]; exact Ty_wR tz_801 trivial
                            have oz_802 : Same [0, 1, 12] [6, 7, 8, 9, 10, 11, 12] z z_802 := oz_801.r (by decide) ez_802
                            have f_835 : 0 ≤ (gI z_802 12).toInt ∧ (gI z_802 12).toInt ≤ 16 := tz_802.1 12
                            have q_836 := ((((((((show (gI z_802 12).toInt = (gI z_801 12).toInt by rw [ez_802]; rfl)).trans (show (gI z_801 12).toInt = (gI z_800 12).toInt by rw [ez_801]; rfl)).trans (show (gI z_800 12).toInt = (gI z_799 12).toInt by rw [ez_800]; rfl)).trans (show (gI z_799 12).toInt = (gI z_798 12).toInt by rw [ez_799]; rfl)).trans (show (gI z_798 12).toInt = (gI z_797 12).toInt by rw [ez_798]; rfl)).trans (show (gI z_797 12).toInt = (gI z_796 12).toInt by rw [ez_797]; rfl)).trans (show (gI z_796 12).toInt = (gI z1 12).toInt by rw [ez_796]; rfl)).trans (show (gI z1 12).toInt = (gI z 12).toInt by rw [ez1]; rfl)
                            refine ⟨vin (a_add (a_mul (show (4 : Int32).toInt = 4 by decide) rfl (by omega) (by omega)) (show (3 : Int32).toInt = 3 by decide) (by omega) (by omega)) (by omega) (by omega), ?_⟩
                            intro z_803 ez_803
                            have tz_803 : TM z_803 := by rw [ez_803]; exact Ty_wR tz_802 trivial
                            have oz_803 : Same [0, 1, 12] [6, 7, 8, 9, 10, 11, 12] z z_803 := oz_802.r (by decide) ez_803
                            have f_837 : 0 ≤ (gI z_803 12).toInt ∧ (gI z_803 12).toInt ≤ 16 := tz_803.1 12
                            have q_838 := (((((((((show (gI z_803 12).toInt = (gI z_802 12).toInt by rw [ez_803]; rfl)).trans (show (gI z_802 12).toInt = (gI z_801 12).toInt by rw [ez_802]; rfl)).trans (show (gI z_801 12).toInt = (gI z_800 12).toInt by rw [ez_801]; rfl)).trans (show (gI z_800 12).toInt = (gI z_799 12).toInt by rw [ez_800]; rfl)).trans (show (gI z_799 12).toInt = (gI z_798 12).toInt by rw [ez_799]; rfl)).trans (show (gI z_798 12).toInt = (gI z_797 12).toInt by rw [ez_798]; rfl)).trans (show (gI z_797 12).toInt = (gI z_796 12).toInt by rw [ez_797]; rfl)).trans (show (gI z_796 12).toInt = (gI z1 12).toInt by rw [ez_796]; rfl)).trans (show (gI z1 12).toInt = (gI z 12).toInt by rw [ez1]; rfl)
                            refine ⟨vin rfl (by omega) (by omega), ?_⟩
                            intro z_804 ez_804
                            have tz_804 : TM z_804 := by rw [ez_804]; exact Ty_wR tz_803 trivial
                            have oz_804 : Same [0, 1, 12] [6, 7, 8, 9, 10, 11, 12] z z_804 := oz_803.r (by decide) ez_804
                            have f_839 : 0 ≤ (gI z_804 12).toInt ∧ (gI z_804 12).toInt ≤ 16 := tz_804.1 12
                            have q_840 := ((((((((((show (gI z_804 12).toInt = (gI z_803 12).toInt by rw [ez_804]; rfl)).trans (show (gI z_803 12).toInt = (gI z_802 12).toInt by rw [ez_803]; rfl)).trans (show (gI z_802 12).toInt = (gI z_801 12).toInt by rw [ez_802]; rfl)).trans (show (gI z_801 12).toInt = (gI z_800 12).toInt by rw [ez_801]; rfl)).trans (show (gI z_800 12).toInt = (gI z_799 12).toInt by rw [ez_800]; rfl)).trans (show (gI z_799 12).toInt = (gI z_798 12).toInt by rw [ez_799]; rfl)).trans (show (gI z_798 12).toInt = (gI z_797 12).toInt by rw [ez_798]; rfl)).trans (show (gI z_797 12).toInt = (gI z_796 12).toInt by rw [ez_797]; rfl)).trans (show (gI z_796 12).toInt = (gI z1 12).toInt by rw [ez_796]; rfl)).trans (show (gI z1 12).toInt = (gI z 12).toInt by rw [ez1]; rfl)
                            refine ⟨vin rfl (by omega) (by omega), ?_⟩
                            intro z_805 ez_805
                            have tz_805 : TM z_805 := by rw [ez_805]; exact Ty_wR tz_804 trivial
                            have oz_805 : Same [0, 1, 12] [6, 7, 8, 9, 10, 11, 12] z z_805 := oz_804.r (by decide) ez_805
                            intro z_806 ez_806
                            have f_841 : 0 ≤ (gI z_805 12).toInt ∧ (gI z_805 12).toInt ≤ 16 := tz_805.1 12
                            have q_842 := (((((((((((show (gI z_805 12).toInt = (gI z_804 12).toInt by rw [ez_805]; rfl)).trans (show (gI z_804 12).toInt = (gI z_803 12).toInt by rw [ez_804]; rfl)).trans (show (gI z_803 12).toInt = (gI z_802 12).toInt by rw [ez_803]; rfl)).trans (show (gI z_802 12).toInt = (gI z_801 12).toInt by rw [ez_802]; rfl)).trans (show (gI z_801 12).toInt = (gI z_800 12).toInt by rw [ez_801]; rfl)).trans (show (gI z_800 12).toInt = (gI z_799 12).toInt by rw [ez_800]; rfl)).trans (show (gI z_799 12).toInt = (gI z_798 12).toInt by rw [ez_799]; rfl)).trans (show (gI z_798 12).toInt = (gI z_797 12).toInt by rw [ez_798]; rfl)).trans (show (gI z_797 12).toInt = (gI z_796 12).toInt by rw [ez_797]; rfl)).trans (show (gI z_796 12).toInt = (gI z1 12).toInt by rw [ez_796]; rfl)).trans (show (gI z1 12).toInt = (gI z 12).toInt by rw [ez1]; rfl)
                            have tz_806 : TM z_806 := by rw [ez_806]; exact Ty_wI tz_805 (show 0 ≤ ((gI z_805 12) + (1 : Int32)).toInt ∧ ((gI z_805 12) + (1 : Int32)).toInt ≤ 16 from by rw [(a_add rfl (show (1 : Int32).toInt = 1 by decide) (by omega) (by omega))]; omega)
                            have oz_806 : Same [0, 1, 12] [6, 7, 8, 9, 10, 11, 12] z z_806 := oz_805.i (by decide) ez_806
                            have f_843 : 0 ≤ (gI z_806 12).toInt ∧ (gI z_806 12).toInt ≤ 16 := tz_806.1 12
                            have q_844 := (show (gI z_806 12).toInt = ((gI z_805 12) + (1 : Int32)).toInt by rw [ez_806]; rfl)
                            have q_845 : ((gI z_805 12) + (1 : Int32)).toInt = ((gI z_805 12).toInt + (1)) := (a_add rfl (show (1 : Int32).toInt = 1 by decide) (by omega) (by omega))
                            have g_846 : ((gI z_806 12) - (1 : Int32)).toInt = ((gI z_806 12).toInt - (1)) := (a_sub rfl (show (1 : Int32).toInt = 1 by decide) (by omega) (by omega))
                            refine s_X9_told ((gI z_806 12) - ((1 : Int32))) z_806 _ tz_806  (fun r_807 z_808 tz_808 o_848 hp_847 => ?_)
                            have oz_808 : Same [0, 1, 12] [6, 7, 8, 9, 10, 11, 12] z z_808 := oz_806.tr o_848 (by decide) (by decide)
                            exact hk r_807 z_808 tz_808 oz_808 trivial
                          · skip
                            have f_849 : 0 ≤ (gI z1 12).toInt ∧ (gI z1 12).toInt ≤ 16 := tz1.1 12
                            have q_850 := (show (gI z1 12).toInt = (gI z 12).toInt by rw [ez1]; rfl)
                            have f_851 : 0 ≤ (gI z 12).toInt ∧ (gI z 12).toInt ≤ 16 := ht.1 12
                            have i_852 := i_eq rfl (show (16 : Int32).toInt = 16 by decide) c_795
                            have g_853 : (-5 : Int32).toInt = -5 := by decide
                            refine s_X9_told ((-5 : Int32)) z1 _ tz1  (fun r_809 z_810 tz_810 o_855 hp_854 => ?_)
                            have oz_810 : Same [0, 1, 12] [6, 7, 8, 9, 10, 11, 12] z z_810 := oz1.tr o_855 (by decide) (by decide)
                            exact hk r_809 z_810 tz_810 oz_810 trivial
                        · subst er_793
                          have f_856 : 0 ≤ (gI z1 8).toInt ∧ (gI z1 8).toInt ≤ 4 := tz1.1 8
                          have q_857 := (show (gI z1 8).toInt = (gI z 8).toInt by rw [ez1]; rfl)
                          have f_858 : 0 ≤ (gI z 8).toInt ∧ (gI z 8).toInt ≤ 4 := ht.1 8
                          refine ⟨fun hc => absurd hc (by decide), fun _ => ?_⟩
                          have g_859 : (-2 : Int32).toInt = -2 := by decide
                          refine s_X9_told ((-2 : Int32)) z1 _ tz1  (fun r_811 z_812 tz_812 o_861 hp_860 => ?_)
                          have oz_812 : Same [0, 1, 12] [6, 7, 8, 9, 10, 11, 12] z z_812 := oz1.tr o_861 (by decide) (by decide)
                          exact hk r_811 z_812 tz_812 oz_812 trivial
                      · skip
                        have i_862 := i_nlt rfl (show (4 : Int32).toInt = 4 by decide) c_787
                        have g_863 : (Int32.toInt64 b8).toInt = b8.toInt := (a_wide rfl)
                        have g_864 : (0 : Int64).toInt = 0 := by decide
                        have g_865 : (5000 : Int64).toInt = 5000 := by decide
                        refine s_X9_in (Int32.toInt64 b8) ((0 : Int64)) ((5000 : Int64)) z1 _ tz1  (fun r_788 hp_866 => ?_)
                        rcases hp_866 with ⟨er_788, hp_866⟩ | ⟨er_788, hp_866⟩
                        · subst er_788
                          refine ⟨fun hc => absurd hc (by decide), fun _ => ?_⟩
                          refine hK_790  ?_
                          refine hK_190 ((1 : Int32)) ?_
                          refine ⟨fun _ => ?_, fun hc => absurd hc (by decide)⟩
                          refine s_X9_isHome b1 z1 _ tz1  (fun r_868 hp_890 => ?_)
                          rcases hp_890 with ⟨er_868, hp_890⟩ | ⟨er_868, hp_890⟩
                          · subst er_868
                            have f_891 : 0 ≤ (gI z1 8).toInt ∧ (gI z1 8).toInt ≤ 4 := tz1.1 8
                            have q_892 := (show (gI z1 8).toInt = (gI z 8).toInt by rw [ez1]; rfl)
                            have f_893 : 0 ≤ (gI z 8).toInt ∧ (gI z 8).toInt ≤ 4 := ht.1 8
                            refine ⟨fun _ => ?_, fun hc => absurd hc (by decide)⟩
                            refine ⟨fun c_870 => ?_, fun c_870 => ?_⟩
                            · skip
                              have f_894 : 0 ≤ (gI z1 12).toInt ∧ (gI z1 12).toInt ≤ 16 := tz1.1 12
                              have q_895 := (show (gI z1 12).toInt = (gI z 12).toInt by rw [ez1]; rfl)
                              have f_896 : 0 ≤ (gI z 12).toInt ∧ (gI z 12).toInt ≤ 16 := ht.1 12
                              have i_897 := i_ne rfl (show (16 : Int32).toInt = 16 by decide) c_870
                              refine ⟨vin rfl (by omega) (by omega), ?_⟩
                              intro z_871 ez_871
                              have tz_871 : TM z_871 := by rw [ez_871]; exact Ty_wR tz1 (show 0 ≤ b1.toInt ∧ b1.toInt ≤ 3 from by omega)
                              have oz_871 : Same [0, 1, 12] [6, 7, 8, 9, 10, 11, 12] z z_871 := oz1.r (by decide) ez_871
                              have f_898 : 0 ≤ (gI z_871 12).toInt ∧ (gI z_871 12).toInt ≤ 16 := tz_871.1 12
                              have q_899 := ((show (gI z_871 12).toInt = (gI z1 12).toInt by rw [ez_871]; rfl)).trans (show (gI z1 12).toInt = (gI z 12).toInt by rw [ez1]; rfl)
                              refine ⟨vin rfl (by omega) (by omega), ?_⟩
                              intro z_872 ez_872
                              have tz_872 : TM z_872 := by rw [ez_872]; exact Ty_wR tz_871 (show 0 ≤ b2.toInt ∧ b2.toInt ≤ 167 from by omega)
                              have oz_872 : Same [0, 1, 12] [6, 7, 8, 9, 10, 11, 12] z z_872 := oz_871.r (by decide) ez_872
                              have f_900 : 0 ≤ (gI z_872 12).toInt ∧ (gI z_872 12).toInt ≤ 16 := tz_872.1 12
                              have q_901 := (((show (gI z_872 12).toInt = (gI z_871 12).toInt by rw [ez_872]; rfl)).trans (show (gI z_871 12).toInt = (gI z1 12).toInt by rw [ez_871]; rfl)).trans (show (gI z1 12).toInt = (gI z 12).toInt by rw [ez1]; rfl)
                              refine ⟨vin rfl (by omega) (by omega), ?_⟩
                              intro z_873 ez_873
                              have tz_873 : TM z_873 := by rw [ez_873]; exact Ty_wR tz_872 (show 0 ≤ b3.toInt ∧ b3.toInt ≤ 167 from by omega)
                              have oz_873 : Same [0, 1, 12] [6, 7, 8, 9, 10, 11, 12] z z_873 := oz_872.r (by decide) ez_873
                              have f_902 : 0 ≤ (gI z_873 12).toInt ∧ (gI z_873 12).toInt ≤ 16 := tz_873.1 12
                              have q_903 := ((((show (gI z_873 12).toInt = (gI z_872 12).toInt by rw [ez_873]; rfl)).trans (show (gI z_872 12).toInt = (gI z_871 12).toInt by rw [ez_872]; rfl)).trans (show (gI z_871 12).toInt = (gI z1 12).toInt by rw [ez_871]; rfl)).trans (show (gI z1 12).toInt = (gI z 12).toInt by rw [ez1]; rfl)
                              refine ⟨vin rfl (by omega) (by omega), ?_⟩
                              intro z_874 ez_874
                              have tz_874 : TM z_874 := by rw [ez_874]; exact Ty_wR tz_873 (show 0 ≤ b4.toInt ∧ b4.toInt ≤ 4 from by omega)
                              have oz_874 : Same [0, 1, 12] [6, 7, 8, 9, 10, 11, 12] z z_874 := oz_873.r (by decide) ez_874
                              have f_904 : 0 ≤ (gI z_874 12).toInt ∧ (gI z_874 12).toInt ≤ 16 := tz_874.1 12
                              have q_905 := (((((show (gI z_874 12).toInt = (gI z_873 12).toInt by rw [ez_874]; rfl)).trans (show (gI z_873 12).toInt = (gI z_872 12).toInt by rw [ez_873]; rfl)).trans (show (gI z_872 12).toInt = (gI z_871 12).toInt by rw [ez_872]; rfl)).trans (show (gI z_871 12).toInt = (gI z1 12).toInt by rw [ez_871]; rfl)).trans (show (gI z1 12).toInt = (gI z 12).toInt by rw [ez1]; rfl)
                              refine ⟨vin (a_mul (show (4 : Int32).toInt = 4 by decide) rfl (by omega) (by omega)) (by omega) (by omega), ?_⟩
                              intro z_875 ez_875
                              have tz_875 : TM z_875 := by rw [ez_875]; exact Ty_wR tz_874 trivial
                              have oz_875 : Same [0, 1, 12] [6, 7, 8, 9, 10, 11, 12] z z_875 := oz_874.r (by decide) ez_875
                              have f_906 : 0 ≤ (gI z_875 12).toInt ∧ (gI z_875 12).toInt ≤ 16 := tz_875.1 12
                              have q_907 := ((((((show (gI z_875 12).toInt = (gI z_874 12).toInt by rw [ez_875]; rfl)).trans (show (gI z_874 12).toInt = (gI z_873 12).toInt by rw [ez_874]; rfl)).trans (show (gI z_873 12).toInt = (gI z_872 12).toInt by rw [ez_873]; rfl)).trans (show (gI z_872 12).toInt = (gI z_871 12).toInt by rw [ez_872]; rfl)).trans (show (gI z_871 12).toInt = (gI z1 12).toInt by rw [ez_871]; rfl)).trans (show (gI z1 12).toInt = (gI z 12).toInt by rw [ez1]; rfl)
                              refine ⟨vin (a_add (a_mul (show (4 : Int32).toInt = 4 by decide) rfl (by omega) (by omega)) (show (1 : Int32).toInt = 1 by decide) (by omega) (by omega)) (by omega) (by omega), ?_⟩
                              intro z_876 ez_876
                              have tz_876 : TM z_876 := by rw [ez_876]; exact Ty_wR tz_875 trivial
                              have oz_876 : Same [0, 1, 12] [6, 7, 8, 9, 10, 11, 12] z z_876 := oz_875.r (by decide) ez_876
                              have f_908 : 0 ≤ (gI z_876 12).toInt ∧ (gI z_876 12).toInt ≤ 16 := tz_876.1 12
                              have q_909 := (((((((show (gI z_876 12).toInt = (gI z_875 12).toInt by rw [ez_876]; rfl)).trans (show (gI z_875 12).toInt = (gI z_874 12).toInt by rw [ez_875]; rfl)).trans (show (gI z_874 12).toInt = (gI z_873 12).toInt by rw [ez_874]; rfl)).trans (show (gI z_873 12).toInt = (gI z_872 12).toInt by rw [ez_873]; rfl)).trans (show (gI z_872 12).toInt = (gI z_871 12).toInt by rw [ez_872]; rfl)).trans (show (gI z_871 12).toInt = (gI z1 12).toInt by rw [ez_871]; rfl)).trans (show (gI z1 12).toInt = (gI z 12).toInt by rw [ez1]; rfl)
                              refine ⟨vin (a_add (a_mul (show (4 : Int32).toInt = 4 by decide) rfl (by omega) (by omega)) (show (2 : Int32).toInt = 2 by decide) (by omega) (by omega)) (by omega) (by omega), ?_⟩
                              intro z_877 ez_877
                              have tz_877 : TM z_877 := by rw [ez_877]; exact Ty_wR tz_876 trivial
                              have oz_877 : Same [0, 1, 12] [6, 7, 8, 9, 10, 11, 12] z z_877 := oz_876.r (by decide) ez_877
                              have f_910 : 0 ≤ (gI z_877 12).toInt ∧ (gI z_877 12).toInt ≤ 16 := tz_877.1 12
                              have q_911 := ((((((((show (gI z_877 12).toInt = (gI z_876 12).toInt by rw [ez_877]; rfl)).trans (show (gI z_876 12).toInt = (gI z_875 12).toInt by rw [ez_876]; rfl)).trans (show (gI z_875 12).toInt = (gI z_874 12).toInt by rw [ez_875]; rfl)).trans (show (gI z_874 12).toInt = (gI z_873 12).toInt by rw [ez_874]; rfl)).trans (show (gI z_873 12).toInt = (gI z_872 12).toInt by rw [ez_873]; rfl)).trans (show (gI z_872 12).toInt = (gI z_871 12).toInt by rw [ez_872]; rfl)).trans (show (gI z_871 12).toInt = (gI z1 12).toInt by rw [ez_871]; rfl)).trans (show (gI z1 12).toInt = (gI z 12).toInt by rw [ez1]; rfl)
                              refine ⟨vin (a_add (a_mul (show (4 : Int32).toInt = 4 by decide) rfl (by omega) (by omega)) (show (3 : Int32).toInt = 3 by decide) (by omega) (by omega)) (by omega) (by omega), ?_⟩
                              intro z_878 ez_878
                              have tz_878 : TM z_878 := by rw [ez_878]; exact Ty_wR tz_877 trivial
                              have oz_878 : Same [0, 1, 12] [6, 7, 8, 9, 10, 11, 12] z z_878 := oz_877.r (by decide) ez_878
                              have f_912 : 0 ≤ (gI z_878 12).toInt ∧ (gI z_878 12).toInt ≤ 16 := tz_878.1 12
                              have q_913 := (((((((((show (gI z_878 12).toInt = (gI z_877 12).toInt by rw [ez_878]; rfl)).trans (show (gI z_877 12).toInt = (gI z_876 12).toInt by rw [ez_877]; rfl)).trans (show (gI z_876 12).toInt = (gI z_875 12).toInt by rw [ez_876]; rfl)).trans (show (gI z_875 12).toInt = (gI z_874 12).toInt by rw [ez_875]; rfl)).trans (show (gI z_874 12).toInt = (gI z_873 12).toInt by rw [ez_874]; rfl)).trans (show (gI z_873 12).toInt = (gI z_872 12).toInt by rw [ez_873]; rfl)).trans (show (gI z_872 12).toInt = (gI z_871 12).toInt by rw [ez_872]; rfl)).trans (show (gI z_871 12).toInt = (gI z1 12).toInt by rw [ez_871]; rfl)).trans (show (gI z1 12).toInt = (gI z 12).toInt by rw [ez1]; rfl)
                              refine ⟨vin rfl (by omega) (by omega), ?_⟩
                              intro z_879 ez_879
                              have tz_879 : TM z_879 := by rw [ez_879]; exact Ty_wR tz_878 trivial
                              have oz_879 : Same [0, 1, 12] [6, 7, 8, 9, 10, 11, 12] z z_879 := oz_878.r (by decide) ez_879
                              have f_914 : 0 ≤ (gI z_879 12).toInt ∧ (gI z_879 12).toInt ≤ 16 := tz_879.1 12
                              have q_915 := ((((((((((show (gI z_879 12).toInt = (gI z_878 12).toInt by rw [ez_879]; rfl)).trans (show (gI z_878 12).toInt = (gI z_877 12).toInt by rw [ez_878]; rfl)).trans (show (gI z_877 12).toInt = (gI z_876 12).toInt by rw [ez_877]; rfl)).trans (show (gI z_876 12).toInt = (gI z_875 12).toInt by rw [ez_876]; rfl)).trans (show (gI z_875 12).toInt = (gI z_874 12).toInt by rw [ez_875]; rfl)).trans (show (gI z_874 12).toInt = (gI z_873 12).toInt by rw [ez_874]; rfl)).trans (show (gI z_873 12).toInt = (gI z_872 12).toInt by rw [ez_873]; rfl)).trans (show (gI z_872 12).toInt = (gI z_871 12).toInt by rw [ez_872]; rfl)).trans (show (gI z_871 12).toInt = (gI z1 12).toInt by rw [ez_871]; rfl)).trans (show (gI z1 12).toInt = (gI z 12).toInt by rw [ez1]; rfl)
                              refine ⟨vin rfl (by omega) (by omega), ?_⟩
                              intro z_880 ez_880
                              have tz_880 : TM z_880 := by rw [ez_880]; exact Ty_wR tz_879 trivial
                              have oz_880 : Same [0, 1, 12] [6, 7, 8, 9, 10, 11, 12] z z_880 := oz_879.r (by decide) ez_880
                              intro z_881 ez_881
                              have f_916 : 0 ≤ (gI z_880 12).toInt ∧ (gI z_880 12).toInt ≤ 16 := tz_880.1 12
                              have q_917 := (((((((((((show (gI z_880 12).toInt = (gI z_879 12).toInt by rw [ez_880]; rfl)).trans (show (gI z_879 12).toInt = (gI z_878 12).toInt by rw [ez_879]; rfl)).trans (show (gI z_878 12).toInt = (gI z_877 12).toInt by rw [ez_878]; rfl)).trans (show (gI z_877 12).toInt = (gI z_876 12).toInt by rw [ez_877]; rfl)).trans (show (gI z_876 12).toInt = (gI z_875 12).toInt by rw [ez_876]; rfl)).trans (show (gI z_875 12).toInt = (gI z_874 12).toInt by rw [ez_875]; rfl)).trans (show (gI z_874 12).toInt = (gI z_873 12).toInt by rw [ez_874]; rfl)).trans (show (gI z_873 12).toInt = (gI z_872 12).toInt by rw [ez_873]; rfl)).trans (show (gI z_872 12).toInt = (gI z_871 12).toInt by rw [ez_872]; rfl)).trans (show (gI z_871 12).toInt = (gI z1 12).toInt by rw [ez_871]; rfl)).trans (show (gI z1 12).toInt = (gI z 12).toInt by rw [ez1]; rfl)
                              have tz_881 : TM z_881 := by rw [ez_881]; exact Ty_wI tz_880 (show 0 ≤ ((gI z_880 12) + (1 : Int32)).toInt ∧ ((gI z_880 12) + (1 : Int32)).toInt ≤ 16 from by rw [(a_add rfl (show (1 : Int32).toInt = 1 by decide) (by omega) (by omega))]; omega)
                              have oz_881 : Same [0, 1, 12] [6, 7, 8, 9, 10, 11, 12] z z_881 := oz_880.i (by decide) ez_881
                              have f_918 : 0 ≤ (gI z_881 12).toInt ∧ (gI z_881 12).toInt ≤ 16 := tz_881.1 12
                              have q_919 := (show (gI z_881 12).toInt = ((gI z_880 12) + (1 : Int32)).toInt by rw [ez_881]; rfl)
                              have q_920 : ((gI z_880 12) + (1 : Int32)).toInt = ((gI z_880 12).toInt + (1)) := (a_add rfl (show (1 : Int32).toInt = 1 by decide) (by omega) (by omega))
                              have g_921 : ((gI z_881 12) - (1 : Int32)).toInt = ((gI z_881 12).toInt - (1)) := (a_sub rfl (show (1 : Int32).toInt = 1 by decide) (by omega) (by omega))
                              refine s_X9_told ((gI z_881 12) - ((1 : Int32))) z_881 _ tz_881  (fun r_882 z_883 tz_883 o_923 hp_922 => ?_)
                              have oz_883 : Same [0, 1, 12] [6, 7, 8, 9, 10, 11, 12] z z_883 := oz_881.tr o_923 (by decide) (by decide)
                              exact hk r_882 z_883 tz_883 oz_883 trivial
                            · skip
                              have f_924 : 0 ≤ (gI z1 12).toInt ∧ (gI z1 12).toInt ≤ 16 := tz1.1 12
                              have q_925 := (show (gI z1 12).toInt = (gI z 12).toInt by rw [ez1]; rfl)
                              have f_926 : 0 ≤ (gI z 12).toInt ∧ (gI z 12).toInt ≤ 16 := ht.1 12
                              have i_927 := i_eq rfl (show (16 : Int32).toInt = 16 by decide) c_870
                              have g_928 : (-5 : Int32).toInt = -5 := by decide
                              refine s_X9_told ((-5 : Int32)) z1 _ tz1  (fun r_884 z_885 tz_885 o_930 hp_929 => ?_)
                              have oz_885 : Same [0, 1, 12] [6, 7, 8, 9, 10, 11, 12] z z_885 := oz1.tr o_930 (by decide) (by decide)
                              exact hk r_884 z_885 tz_885 oz_885 trivial
                          · subst er_868
                            have f_931 : 0 ≤ (gI z1 8).toInt ∧ (gI z1 8).toInt ≤ 4 := tz1.1 8
                            have q_932 := (show (gI z1 8).toInt = (gI z 8).toInt by rw [ez1]; rfl)
                            have f_933 : 0 ≤ (gI z 8).toInt ∧ (gI z 8).toInt ≤ 4 := ht.1 8
                            refine ⟨fun hc => absurd hc (by decide), fun _ => ?_⟩
                            have g_934 : (-2 : Int32).toInt = -2 := by decide
                            refine s_X9_told ((-2 : Int32)) z1 _ tz1  (fun r_886 z_887 tz_887 o_936 hp_935 => ?_)
                            have oz_887 : Same [0, 1, 12] [6, 7, 8, 9, 10, 11, 12] z z_887 := oz1.tr o_936 (by decide) (by decide)
                            exact hk r_886 z_887 tz_887 oz_887 trivial
                        · subst er_788
                          refine ⟨fun _ => ?_, fun hc => absurd (show ((0 : Int32)) = ((0 : Int32)) by decide) hc⟩
                          refine hK_191  ?_
                          refine hK_190 ((0 : Int32)) ?_
                          refine ⟨fun hc => absurd hc (by decide), fun _ => ?_⟩
                          have g_960 : (-1 : Int32).toInt = -1 := by decide
                          refine s_X9_told ((-1 : Int32)) z1 _ tz1  (fun r_958 z_959 tz_959 o_962 hp_961 => ?_)
                          have oz_959 : Same [0, 1, 12] [6, 7, 8, 9, 10, 11, 12] z z_959 := oz1.tr o_962 (by decide) (by decide)
                          exact hk r_958 z_959 tz_959 oz_959 trivial
                    · subst er_600
                      refine ⟨fun _ => ?_, fun hc => absurd (show ((0 : Int32)) = ((0 : Int32)) by decide) hc⟩
                      refine hK_191  ?_
                      refine hK_190 ((0 : Int32)) ?_
                      refine ⟨fun hc => absurd hc (by decide), fun _ => ?_⟩
                      have g_986 : (-1 : Int32).toInt = -1 := by decide
                      refine s_X9_told ((-1 : Int32)) z1 _ tz1  (fun r_984 z_985 tz_985 o_988 hp_987 => ?_)
                      have oz_985 : Same [0, 1, 12] [6, 7, 8, 9, 10, 11, 12] z z_985 := oz1.tr o_988 (by decide) (by decide)
                      exact hk r_984 z_985 tz_985 oz_985 trivial
                · subst er_188
                  refine ⟨fun _ => ?_, fun hc => absurd (show ((0 : Int32)) = ((0 : Int32)) by decide) hc⟩
                  refine hK_191  ?_
                  refine hK_190 ((0 : Int32)) ?_
                  refine ⟨fun hc => absurd hc (by decide), fun _ => ?_⟩
                  have g_1012 : (-1 : Int32).toInt = -1 := by decide
                  refine s_X9_told ((-1 : Int32)) z1 _ tz1  (fun r_1010 z_1011 tz_1011 o_1014 hp_1013 => ?_)
                  have oz_1011 : Same [0, 1, 12] [6, 7, 8, 9, 10, 11, 12] z z_1011 := oz1.tr o_1014 (by decide) (by decide)
                  exact hk r_1010 z_1011 tz_1011 oz_1011 trivial
            · subst er60
              refine ⟨fun _ => ?_, fun hc => absurd (show ((0 : Int32)) = ((0 : Int32)) by decide) hc⟩
              refine hK_3  ?_
              refine hK_2 ((0 : Int32)) ?_
              intro K_1015 hK_1054
              intro K_1040 hK_1055
              refine ⟨fun _ => ?_, fun hc => absurd (show ((0 : Int32)) = ((0 : Int32)) by decide) hc⟩
              refine hK_1055  ?_
              refine hK_1054 ((0 : Int32)) ?_
              refine ⟨fun hc => absurd hc (by decide), fun _ => ?_⟩
              have g_1079 : (-1 : Int32).toInt = -1 := by decide
              refine s_X9_told ((-1 : Int32)) z1 _ tz1  (fun r_1077 z_1078 tz_1078 o_1081 hp_1080 => ?_)
              have oz_1078 : Same [0, 1, 12] [6, 7, 8, 9, 10, 11, 12] z z_1078 := oz1.tr o_1081 (by decide) (by decide)
              exact hk r_1077 z_1078 tz_1078 oz_1078 trivial
          · subst er57
            refine ⟨fun _ => ?_, fun hc => absurd (show ((0 : Int32)) = ((0 : Int32)) by decide) hc⟩
            refine hK_3  ?_
            refine hK_2 ((0 : Int32)) ?_
            intro K_1082 hK_1121
            intro K_1107 hK_1122
            refine ⟨fun _ => ?_, fun hc => absurd (show ((0 : Int32)) = ((0 : Int32)) by decide) hc⟩
            refine hK_1122  ?_
            refine hK_1121 ((0 : Int32)) ?_
            refine ⟨fun hc => absurd hc (by decide), fun _ => ?_⟩
            have g_1146 : (-1 : Int32).toInt = -1 := by decide
            refine s_X9_told ((-1 : Int32)) z1 _ tz1  (fun r_1144 z_1145 tz_1145 o_1148 hp_1147 => ?_)
            have oz_1145 : Same [0, 1, 12] [6, 7, 8, 9, 10, 11, 12] z z_1145 := oz1.tr o_1148 (by decide) (by decide)
            exact hk r_1144 z_1145 tz_1145 oz_1145 trivial
    · subst er52
      refine ⟨fun _ => ?_, fun hc => absurd (show ((0 : Int32)) = ((0 : Int32)) by decide) hc⟩
      refine hK_3  ?_
      refine hK_2 ((0 : Int32)) ?_
      intro K_1149 hK_1188
      intro K_1174 hK_1189
      refine ⟨fun _ => ?_, fun hc => absurd (show ((0 : Int32)) = ((0 : Int32)) by decide) hc⟩
      refine hK_1189  ?_
      refine hK_1188 ((0 : Int32)) ?_
      refine ⟨fun hc => absurd hc (by decide), fun _ => ?_⟩
      have g_1213 : (-1 : Int32).toInt = -1 := by decide
      refine s_X9_told ((-1 : Int32)) z1 _ tz1  (fun r_1211 z_1212 tz_1212 o_1215 hp_1214 => ?_)
      have oz_1212 : Same [0, 1, 12] [6, 7, 8, 9, 10, 11, 12] z z_1212 := oz1.tr o_1215 (by decide) (by decide)
      exact hk r_1211 z_1212 tz_1212 oz_1212 trivial
  · subst er3
    intro K5 hK_1216
    intro K49 hK_1217
    refine ⟨fun _ => ?_, fun hc => absurd (show ((0 : Int32)) = ((0 : Int32)) by decide) hc⟩
    refine hK_1217  ?_
    refine hK_1216 ((0 : Int32)) ?_
    intro K_1218 hK_1257
    intro K_1243 hK_1258
    refine ⟨fun _ => ?_, fun hc => absurd (show ((0 : Int32)) = ((0 : Int32)) by decide) hc⟩
    refine hK_1258  ?_
    refine hK_1257 ((0 : Int32)) ?_
    refine ⟨fun hc => absurd hc (by decide), fun _ => ?_⟩
    have g_1282 : (-1 : Int32).toInt = -1 := by decide
    refine s_X9_told ((-1 : Int32)) z1 _ tz1  (fun r_1280 z_1281 tz_1281 o_1284 hp_1283 => ?_)
    have oz_1281 : Same [0, 1, 12] [6, 7, 8, 9, 10, 11, 12] z z_1281 := oz1.tr o_1284 (by decide) (by decide)
    exact hk r_1280 z_1281 tz_1281 oz_1281 trivial

set_option maxHeartbeats 2000000 in
theorem s_X9_isJob (b1 : Int32) (z : St) (P : Int32 → Prop) (ht : TM z)  (hk : ∀ r : Int32, (r = 1 ∧ (0 ≤ b1.toInt ∧ b1.toInt < (gI z 12).toInt)) ∨ (r = 0 ∧ (b1.toInt < 0 ∨ (gI z 12).toInt ≤ b1.toInt)) → P r) : wp_X9_isJob b1 z P := by
  unfold wp_X9_isJob
  have g_1 : (Int32.toInt64 b1).toInt = b1.toInt := (a_wide rfl)
  have g_2 : (0 : Int64).toInt = 0 := by decide
  have f_3 : 0 ≤ (gI z 12).toInt ∧ (gI z 12).toInt ≤ 16 := ht.1 12
  have g_4 : ((Int32.toInt64 (gI z 12)) - (1 : Int64)).toInt = ((gI z 12).toInt - (1)) := (a_subL (a_wide rfl) (show (1 : Int64).toInt = 1 by decide) (by omega) (by omega))
  refine s_X9_in (Int32.toInt64 b1) ((0 : Int64)) ((Int32.toInt64 (gI z 12)) - ((1 : Int64))) z _ ht  (fun r2 hp_5 => ?_)
  rcases hp_5 with ⟨er2, hp_5⟩ | ⟨er2, hp_5⟩
  · subst er2
    have g_6 : (1 : Int32).toInt = 1 := by decide
    refine ⟨Or.inr rfl, ?_⟩
    exact hk ((1 : Int32)) (Or.inl ⟨rfl, (by omega)⟩)
  · subst er2
    have g_7 : (0 : Int32).toInt = 0 := by decide
    refine ⟨Or.inl rfl, ?_⟩
    exact hk ((0 : Int32)) (Or.inr ⟨rfl, (by omega)⟩)

set_option maxHeartbeats 2000000 in
theorem s_X9_of (b1 : Int32) (b2 : Int32) (z : St) (P : Int32 → St → Prop) (ht : TM z)  (hk : ∀ (r : Int32) (z2 : St), TM z2 → Same [0] [] z z2 → (True) → P r z2) : wp_X9_of b1 b2 z P := by
  unfold wp_X9_of
  intro z1 ez1
  have tz1 : TM z1 := by rw [ez1]; exact Ty_wI ht trivial
  have oz1 : Same [0] [] z z1 := (Same.rf (z := z)).i (by decide) ez1
  refine s_X9_isJob b1 z1 _ tz1  (fun r3 hp_1 => ?_)
  rcases hp_1 with ⟨er3, hp_1⟩ | ⟨er3, hp_1⟩
  · subst er3
    have f_2 : 0 ≤ (gI z1 12).toInt ∧ (gI z1 12).toInt ≤ 16 := tz1.1 12
    have q_3 := (show (gI z1 12).toInt = (gI z 12).toInt by rw [ez1]; rfl)
    have f_4 : 0 ≤ (gI z 12).toInt ∧ (gI z 12).toInt ≤ 16 := ht.1 12
    refine ⟨fun _ => ?_, fun hc => absurd hc (by decide)⟩
    refine ⟨fun c5_0 => ?_, fun c5_1 => ?_, fun c5_2 => ?_, fun c5_3 => ?_, fun c5_4 => ?_, fun c5_5 => ?_, fun c5_d => ?_⟩
    · skip
      refine ⟨vin rfl (by omega) (by omega), ?_⟩
      have f_5 : 0 ≤ (gF z1 6 b1.toNatClampNeg).toInt ∧ (gF z1 6 b1.toNatClampNeg).toInt ≤ 3 := tz1.2 6 _
      have q_6 := (show (gF z1 6 b1.toNatClampNeg).toInt = (gF z 6 b1.toNatClampNeg).toInt by rw [ez1]; rfl)
      have f_7 : 0 ≤ (gF z 6 b1.toNatClampNeg).toInt ∧ (gF z 6 b1.toNatClampNeg).toInt ≤ 3 := ht.2 6 _
      exact hk (gF z1 6 b1.toNatClampNeg) z1 tz1 oz1 trivial
    · skip
      refine ⟨vin rfl (by omega) (by omega), ?_⟩
      have f_8 : 0 ≤ (gF z1 7 b1.toNatClampNeg).toInt ∧ (gF z1 7 b1.toNatClampNeg).toInt ≤ 167 := tz1.2 7 _
      have q_9 := (show (gF z1 7 b1.toNatClampNeg).toInt = (gF z 7 b1.toNatClampNeg).toInt by rw [ez1]; rfl)
      have f_10 : 0 ≤ (gF z 7 b1.toNatClampNeg).toInt ∧ (gF z 7 b1.toNatClampNeg).toInt ≤ 167 := ht.2 7 _
      exact hk (gF z1 7 b1.toNatClampNeg) z1 tz1 oz1 trivial
    · skip
      refine ⟨vin rfl (by omega) (by omega), ?_⟩
      have f_11 : 0 ≤ (gF z1 8 b1.toNatClampNeg).toInt ∧ (gF z1 8 b1.toNatClampNeg).toInt ≤ 167 := tz1.2 8 _
      have q_12 := (show (gF z1 8 b1.toNatClampNeg).toInt = (gF z 8 b1.toNatClampNeg).toInt by rw [ez1]; rfl)
      have f_13 : 0 ≤ (gF z 8 b1.toNatClampNeg).toInt ∧ (gF z 8 b1.toNatClampNeg).toInt ≤ 167 := ht.2 8 _
      exact hk (gF z1 8 b1.toNatClampNeg) z1 tz1 oz1 trivial
    · skip
      refine ⟨vin rfl (by omega) (by omega), ?_⟩
      have f_14 : 0 ≤ (gF z1 9 b1.toNatClampNeg).toInt ∧ (gF z1 9 b1.toNatClampNeg).toInt ≤ 4 := tz1.2 9 _
      have q_15 := (show (gF z1 9 b1.toNatClampNeg).toInt = (gF z 9 b1.toNatClampNeg).toInt by rw [ez1]; rfl)
      have f_16 : 0 ≤ (gF z 9 b1.toNatClampNeg).toInt ∧ (gF z 9 b1.toNatClampNeg).toInt ≤ 4 := ht.2 9 _
      exact hk (gF z1 9 b1.toNatClampNeg) z1 tz1 oz1 trivial
    · skip
      refine ⟨vin rfl (by omega) (by omega), ?_⟩
      have q_17 := (show (gF z1 11 b1.toNatClampNeg).toInt = (gF z 11 b1.toNatClampNeg).toInt by rw [ez1]; rfl)
      exact hk (gF z1 11 b1.toNatClampNeg) z1 tz1 oz1 trivial
    · skip
      refine ⟨vin rfl (by omega) (by omega), ?_⟩
      refine ⟨fun c6 => ?_, fun c6 => ?_⟩
      · skip
        have q_18 := (show (gF z1 11 b1.toNatClampNeg).toInt = (gF z 11 b1.toNatClampNeg).toInt by rw [ez1]; rfl)
        have i_19 := i_ne rfl (show (0 : Int32).toInt = 0 by decide) c6
        refine ⟨vin rfl (by omega) (by omega), ?_⟩
        have q_20 := (show (gF z1 12 b1.toNatClampNeg).toInt = (gF z 12 b1.toNatClampNeg).toInt by rw [ez1]; rfl)
        exact hk (gF z1 12 b1.toNatClampNeg) z1 tz1 oz1 trivial
      · skip
        have q_21 := (show (gF z1 11 b1.toNatClampNeg).toInt = (gF z 11 b1.toNatClampNeg).toInt by rw [ez1]; rfl)
        have i_22 := i_eq rfl (show (0 : Int32).toInt = 0 by decide) c6
        have g_23 : (-1 : Int32).toInt = -1 := by decide
        exact hk ((-1 : Int32)) z1 tz1 oz1 trivial
    · skip
      refine ⟨vin rfl (by omega) (by omega), ?_⟩
      have g_24 : (Int32.toInt64 b2).toInt = b2.toInt := (a_wide rfl)
      have g_25 : (10 : Int64).toInt = 10 := by decide
      have f_26 : 0 ≤ (gF z1 9 b1.toNatClampNeg).toInt ∧ (gF z1 9 b1.toNatClampNeg).toInt ≤ 4 := tz1.2 9 _
      have q_27 := (show (gF z1 9 b1.toNatClampNeg).toInt = (gF z 9 b1.toNatClampNeg).toInt by rw [ez1]; rfl)
      have f_28 : 0 ≤ (gF z 9 b1.toNatClampNeg).toInt ∧ (gF z 9 b1.toNatClampNeg).toInt ≤ 4 := ht.2 9 _
      have g_29 : ((9 : Int64) + (Int32.toInt64 (gF z1 9 b1.toNatClampNeg))).toInt = ((9) + (gF z1 9 b1.toNatClampNeg).toInt) := (a_addL (show (9 : Int64).toInt = 9 by decide) (a_wide rfl) (by omega) (by omega))
      refine s_X9_in (Int32.toInt64 b2) ((10 : Int64)) (((9 : Int64)) + (Int32.toInt64 (gF z1 9 b1.toNatClampNeg))) z1 _ tz1  (fun r8 hp_30 => ?_)
      rcases hp_30 with ⟨er8, hp_30⟩ | ⟨er8, hp_30⟩
      · subst er8
        refine ⟨fun hc => absurd hc (by decide), fun _ => ?_⟩
        refine ⟨vin (a_sub (a_add (a_mul (show (4 : Int32).toInt = 4 by decide) rfl (by omega) (by omega)) rfl (by omega) (by omega)) (show (10 : Int32).toInt = 10 by decide) (by omega) (by omega)) (by omega) (by omega), ?_⟩
        have q_31 := (show (gF z1 10 ((((4 : Int32) * b1) + b2) - (10 : Int32)).toNatClampNeg).toInt = (gF z 10 ((((4 : Int32) * b1) + b2) - (10 : Int32)).toNatClampNeg).toInt by rw [ez1]; rfl)
        exact hk (gF z1 10 (((((4 : Int32)) * b1) + b2) - ((10 : Int32))).toNatClampNeg) z1 tz1 oz1 trivial
      · subst er8
        refine ⟨fun _ => ?_, fun hc => absurd (show ((0 : Int32)) = ((0 : Int32)) by decide) hc⟩
        have g_32 : (-1 : Int32).toInt = -1 := by decide
        exact hk ((-1 : Int32)) z1 tz1 oz1 trivial
  · subst er3
    have f_33 : 0 ≤ (gI z1 12).toInt ∧ (gI z1 12).toInt ≤ 16 := tz1.1 12
    have q_34 := (show (gI z1 12).toInt = (gI z 12).toInt by rw [ez1]; rfl)
    have f_35 : 0 ≤ (gI z 12).toInt ∧ (gI z 12).toInt ≤ 16 := ht.1 12
    refine ⟨fun hc => absurd hc (by decide), fun _ => ?_⟩
    have g_36 : (-1 : Int32).toInt = -1 := by decide
    exact hk ((-1 : Int32)) z1 tz1 oz1 trivial

set_option maxHeartbeats 2000000 in
theorem s_X9_isQuiet (b1 : Int32) (b2 : Int32) (z : St) (P : Int32 → Prop) (ht : TM z)  (hk : ∀ r : Int32, (r = 1 ∧ (True)) ∨ (r = 0 ∧ (True)) → P r) : wp_X9_isQuiet b1 b2 z P := by
  unfold wp_X9_isQuiet
  intro x1 ex1
  have ix1 : x1.toInt = (b2 - b2 / (24 : Int32) * (24 : Int32)).toInt := by rw [ex1]
  intro K4 hK_1
  have L_2 : ∀ (n : Nat) (v2 : Int32) (v3 : Int32), (0 ≤ v3.toInt) → (v3.toInt ≤ 20) → (v2 = 0 ∨ v2 = 1) → (20 - v3.toInt).toNat < n → K4 v2 v3 := by
    intro n
    induction n with
    | zero => intro v2 v3 w_3 w_4 w_5 m_7; omega
    | succ n ih_6 =>
      intro v2 v3 w_3 w_4 w_5 m_7
      refine hK_1 v2 v3 ?_
      refine ⟨fun c5 => ?_, fun c5 => ?_⟩
      · skip
        have f_8 : 0 ≤ (gI z 22).toInt ∧ (gI z 22).toInt ≤ 20 := ht.1 22
        have i_9 := i_le rfl rfl c5
        have hb9 : v2 = 0 ∨ v2 = 1 := by first | assumption | omega
        refine ⟨hb9, ?_⟩
        rcases hb9 with e9 | e9
        · exact hk v2 (Or.inr ⟨e9, trivial⟩)
        · exact hk v2 (Or.inl ⟨e9, trivial⟩)
      · skip
        have f_10 : 0 ≤ (gI z 22).toInt ∧ (gI z 22).toInt ≤ 20 := ht.1 22
        have i_11 := i_nle rfl rfl c5
        refine ⟨vin rfl (by omega) (by omega), ?_⟩
        intro K7 hK_12
        refine ⟨fun c9 => ?_, fun c9 => ?_⟩
        · skip
          have i_13 := i_ne rfl (show (0 : Int32).toInt = 0 by decide) c9
          refine hK_12 v2 ?_
          intro y_14 ey_14
          have iy_14 : y_14.toInt = (v3.toInt + (1)) := by rw [ey_14]; exact (a_add rfl (show (1 : Int32).toInt = 1 by decide) (by omega) (by omega))
          exact ih_6 v2 y_14 (by omega) (by omega) (by first | omega | assumption | decide) (by omega)
        · skip
          have i_15 := i_eq rfl (show (0 : Int32).toInt = 0 by decide) c9
          refine ⟨vin rfl (by omega) (by omega), ?_⟩
          refine ⟨fun c10 => ?_, fun c10 => ?_⟩
          · skip
            have i_16 := i_ne rfl rfl c10
            refine hK_12 v2 ?_
            intro y_17 ey_17
            have iy_17 : y_17.toInt = (v3.toInt + (1)) := by rw [ey_17]; exact (a_add rfl (show (1 : Int32).toInt = 1 by decide) (by omega) (by omega))
            exact ih_6 v2 y_17 (by omega) (by omega) (by first | omega | assumption | decide) (by omega)
          · skip
            have i_18 := i_eq rfl rfl c10
            intro K12 hK_19
            intro K13 hK_20
            refine ⟨fun c14 => ?_, fun c14 => ?_⟩
            · skip
              have i_21 := i_ne rfl (show (0 : Int32).toInt = 0 by decide) c14
              refine hK_20  ?_
              refine hK_19 ((1 : Int32)) ?_
              refine hK_12 ((1 : Int32)) ?_
              intro y_22 ey_22
              have iy_22 : y_22.toInt = (v3.toInt + (1)) := by rw [ey_22]; exact (a_add rfl (show (1 : Int32).toInt = 1 by decide) (by omega) (by omega))
              have g_23 : (1 : Int32).toInt = 1 := by decide
              exact ih_6 ((1 : Int32)) y_22 (by omega) (by omega) (by first | omega | assumption | decide) (by omega)
            · skip
              have i_24 := i_eq rfl (show (0 : Int32).toInt = 0 by decide) c14
              refine ⟨vin rfl (by omega) (by omega), ?_⟩
              refine ⟨vin rfl (by omega) (by omega), ?_⟩
              intro K15 hK_25
              refine ⟨fun c16 => ?_, fun c16 => ?_⟩
              · skip
                have i_26 := i_lt rfl rfl c16
                refine ⟨vin rfl (by omega) (by omega), ?_⟩
                refine ⟨fun c17 => ?_, fun c17 => ?_⟩
                · skip
                  have i_27 := i_le rfl rfl c17
                  refine hK_20  ?_
                  refine hK_19 ((1 : Int32)) ?_
                  refine hK_12 ((1 : Int32)) ?_
                  intro y_28 ey_28
                  have iy_28 : y_28.toInt = (v3.toInt + (1)) := by rw [ey_28]; exact (a_add rfl (show (1 : Int32).toInt = 1 by decide) (by omega) (by omega))
                  have g_29 : (1 : Int32).toInt = 1 := by decide
                  exact ih_6 ((1 : Int32)) y_28 (by omega) (by omega) (by first | omega | assumption | decide) (by omega)
                · skip
                  have i_30 := i_nle rfl rfl c17
                  refine ⟨vin rfl (by omega) (by omega), ?_⟩
                  refine ⟨fun c18 => ?_, fun c18 => ?_⟩
                  · skip
                    have i_31 := i_lt rfl rfl c18
                    refine hK_25  ?_
                    refine hK_19 ((0 : Int32)) ?_
                    refine hK_12 ((0 : Int32)) ?_
                    intro y_32 ey_32
                    have iy_32 : y_32.toInt = (v3.toInt + (1)) := by rw [ey_32]; exact (a_add rfl (show (1 : Int32).toInt = 1 by decide) (by omega) (by omega))
                    have g_33 : (0 : Int32).toInt = 0 := by decide
                    exact ih_6 ((0 : Int32)) y_32 (by omega) (by omega) (by first | omega | assumption | decide) (by omega)
                  · skip
                    have i_34 := i_nlt rfl rfl c18
                    refine hK_20  ?_
                    refine hK_19 ((1 : Int32)) ?_
                    refine hK_12 ((1 : Int32)) ?_
                    intro y_35 ey_35
                    have iy_35 : y_35.toInt = (v3.toInt + (1)) := by rw [ey_35]; exact (a_add rfl (show (1 : Int32).toInt = 1 by decide) (by omega) (by omega))
                    have g_36 : (1 : Int32).toInt = 1 := by decide
                    exact ih_6 ((1 : Int32)) y_35 (by omega) (by omega) (by first | omega | assumption | decide) (by omega)
              · skip
                have i_37 := i_nlt rfl rfl c16
                refine ⟨vin rfl (by omega) (by omega), ?_⟩
                refine ⟨vin rfl (by omega) (by omega), ?_⟩
                have g_38 : (Int32.toInt64 x1).toInt = x1.toInt := (a_wide rfl)
                have g_39 : (Int32.toInt64 (gF z 16 v3.toNatClampNeg)).toInt = (gF z 16 v3.toNatClampNeg).toInt := (a_wide rfl)
                have g_40 : (Int32.toInt64 (gF z 17 v3.toNatClampNeg)).toInt = (gF z 17 v3.toNatClampNeg).toInt := (a_wide rfl)
                refine s_X9_in (Int32.toInt64 x1) (Int32.toInt64 (gF z 16 v3.toNatClampNeg)) (Int32.toInt64 (gF z 17 v3.toNatClampNeg)) z _ ht  (fun r20 hp_41 => ?_)
                rcases hp_41 with ⟨er20, hp_41⟩ | ⟨er20, hp_41⟩
                · subst er20
                  refine ⟨fun hc => absurd hc (by decide), fun _ => ?_⟩
                  refine hK_20  ?_
                  refine hK_19 ((1 : Int32)) ?_
                  refine hK_12 ((1 : Int32)) ?_
                  intro y_42 ey_42
                  have iy_42 : y_42.toInt = (v3.toInt + (1)) := by rw [ey_42]; exact (a_add rfl (show (1 : Int32).toInt = 1 by decide) (by omega) (by omega))
                  have g_43 : (1 : Int32).toInt = 1 := by decide
                  exact ih_6 ((1 : Int32)) y_42 (by omega) (by omega) (by first | omega | assumption | decide) (by omega)
                · subst er20
                  refine ⟨fun _ => ?_, fun hc => absurd (show ((0 : Int32)) = ((0 : Int32)) by decide) hc⟩
                  refine hK_25  ?_
                  refine hK_19 ((0 : Int32)) ?_
                  refine hK_12 ((0 : Int32)) ?_
                  intro y_44 ey_44
                  have iy_44 : y_44.toInt = (v3.toInt + (1)) := by rw [ey_44]; exact (a_add rfl (show (1 : Int32).toInt = 1 by decide) (by omega) (by omega))
                  have g_45 : (0 : Int32).toInt = 0 := by decide
                  exact ih_6 ((0 : Int32)) y_44 (by omega) (by omega) (by first | omega | assumption | decide) (by omega)
  have g_46 : (0 : Int32).toInt = 0 := by decide
  have g_47 : (0 : Int32).toInt = 0 := by decide
  exact L_2 ((20 - (0 : Int32).toInt).toNat + 1) ((0 : Int32)) ((0 : Int32)) (by omega) (by omega) (by first | omega | assumption | decide) (by omega)

set_option maxHeartbeats 2000000 in
theorem s_X9_nowOf (b1 : Int32) (z : St) (P : Int32 → St → Prop) (ht : TM z) (h0 : 0 ≤ b1.toInt ∧ b1.toInt ≤ 167) (hk : ∀ (r : Int32) (z2 : St), TM z2 → Same [21] [13] z z2 → (True) → P r z2) : wp_X9_nowOf b1 z P := by
  unfold wp_X9_nowOf
  intro K1 hK_1
  refine ⟨fun c3 => ?_, fun c3 => ?_⟩
  · skip
    have i_2 := i_ne rfl (show (0 : Int32).toInt = 0 by decide) c3
    refine hK_1 z ?_
    refine ⟨vin rfl (by omega) (by omega), ?_⟩
    exact hk (gF z 13 b1.toNatClampNeg) z ht (Same.rf (z := z)) trivial
  · skip
    have i_3 := i_eq rfl (show (0 : Int32).toInt = 0 by decide) c3
    intro K5 hK_4
    have L_5 : ∀ (n : Nat) (v4 : Int32) (z6 : St), TM z6 → Same [21] [13] z z6 → (0 ≤ v4.toInt) → (v4.toInt ≤ 168) → (168 - v4.toInt).toNat < n → K5 v4 z6 := by
      intro n
      induction n with
      | zero => intro v4 z6 tz6 ocz6 w_6 w_7 m_9; omega
      | succ n ih_8 =>
        intro v4 z6 tz6 ocz6 w_6 w_7 m_9
        refine hK_4 v4 z6 ?_
        refine ⟨fun c7 => ?_, fun c7 => ?_⟩
        · skip
          have i_10 := i_le (show (168 : Int32).toInt = 168 by decide) rfl c7
          intro K9 hK_11
          have L_12 : ∀ (n : Nat) (v8 : Int32) (z10 : St), TM z10 → Same [21] [13] z z10 → (0 ≤ v8.toInt) → (v8.toInt ≤ 400) → (400 - v8.toInt).toNat < n → K9 v8 z10 := by
            intro n
            induction n with
            | zero => intro v8 z10 tz10 ocz10 w_13 w_14 m_16; omega
            | succ n ih_15 =>
              intro v8 z10 tz10 ocz10 w_13 w_14 m_16
              refine hK_11 v8 z10 ?_
              refine ⟨fun c11 => ?_, fun c11 => ?_⟩
              · skip
                have f_17 : 0 ≤ (gI z10 3).toInt ∧ (gI z10 3).toInt ≤ 400 := tz10.1 3
                have q_18 := (ocz10.fi 3 (by decide))
                have f_19 : 0 ≤ (gI z 3).toInt ∧ (gI z 3).toInt ≤ 400 := ht.1 3
                have i_20 := i_le rfl rfl c11
                intro z12 ez12
                have tz12 : TM z12 := by rw [ez12]; exact Ty_wI tz10 trivial
                have oz12 : Same [21] [13] z z12 := ocz10.i (by decide) ez12
                refine hK_1 z12 ?_
                refine ⟨vin rfl (by omega) (by omega), ?_⟩
                have q_21 := (show (gF z12 13 b1.toNatClampNeg).toInt = (gF z10 13 b1.toNatClampNeg).toInt by rw [ez12]; rfl)
                exact hk (gF z12 13 b1.toNatClampNeg) z12 tz12 oz12 trivial
              · skip
                have f_22 : 0 ≤ (gI z10 3).toInt ∧ (gI z10 3).toInt ≤ 400 := tz10.1 3
                have q_23 := (ocz10.fi 3 (by decide))
                have f_24 : 0 ≤ (gI z 3).toInt ∧ (gI z 3).toInt ≤ 400 := ht.1 3
                have i_25 := i_nle rfl rfl c11
                refine ⟨vin rfl (by omega) (by omega), ?_⟩
                refine ⟨vin rfl (by omega) (by omega), ?_⟩
                intro K15 hK_26
                refine ⟨fun c18 => ?_, fun c18 => ?_⟩
                · skip
                  have q_27 := (ocz10.ff 3 v8.toNatClampNeg (by decide))
                  have f_28 : 0 ≤ (gI z10 2).toInt ∧ (gI z10 2).toInt ≤ 167 := tz10.1 2
                  have q_29 := (ocz10.fi 2 (by decide))
                  have f_30 : 0 ≤ (gI z 2).toInt ∧ (gI z 2).toInt ≤ 167 := ht.1 2
                  have i_31 := i_lt rfl rfl c18
                  refine ⟨vin rfl (by omega) (by omega), ?_⟩
                  have f_32 : 0 ≤ (gF z10 1 v8.toNatClampNeg).toInt ∧ (gF z10 1 v8.toNatClampNeg).toInt ≤ 167 := tz10.2 1 _
                  have q_33 := (ocz10.ff 1 v8.toNatClampNeg (by decide))
                  have f_34 : 0 ≤ (gF z 1 v8.toNatClampNeg).toInt ∧ (gF z 1 v8.toNatClampNeg).toInt ≤ 167 := ht.2 1 _
                  refine ⟨vin rfl (by omega) (by omega), ?_⟩
                  refine hK_26 ((gF z10 13 (gF z10 1 v8.toNatClampNeg).toNatClampNeg)) ((gF z10 1 v8.toNatClampNeg)) ?_
                  refine ⟨vin rfl (by omega) (by omega), ?_⟩
                  intro z_35 ez_35
                  have tz_35 : TM z_35 := by rw [ez_35]; exact Ty_wR tz10 trivial
                  have oz_35 : Same [21] [13] z z_35 := ocz10.r (by decide) ez_35
                  intro y_36 ey_36
                  have iy_36 : y_36.toInt = (v8.toInt + (1)) := by rw [ey_36]; exact (a_add rfl (show (1 : Int32).toInt = 1 by decide) (by omega) (by omega))
                  exact ih_15 y_36 z_35 tz_35 oz_35 (by omega) (by omega) (by omega)
                · skip
                  have q_37 := (ocz10.ff 3 v8.toNatClampNeg (by decide))
                  have f_38 : 0 ≤ (gI z10 2).toInt ∧ (gI z10 2).toInt ≤ 167 := tz10.1 2
                  have q_39 := (ocz10.fi 2 (by decide))
                  have f_40 : 0 ≤ (gI z 2).toInt ∧ (gI z 2).toInt ≤ 167 := ht.1 2
                  have i_41 := i_nlt rfl rfl c18
                  refine ⟨vin rfl (by omega) (by omega), ?_⟩
                  refine hK_26 ((gF z10 2 v8.toNatClampNeg)) ((gF z10 1 v8.toNatClampNeg)) ?_
                  have f_44 : 0 ≤ (gF z10 1 v8.toNatClampNeg).toInt ∧ (gF z10 1 v8.toNatClampNeg).toInt ≤ 167 := tz10.2 1 _
                  have q_45 := (ocz10.ff 1 v8.toNatClampNeg (by decide))
                  have f_46 : 0 ≤ (gF z 1 v8.toNatClampNeg).toInt ∧ (gF z 1 v8.toNatClampNeg).toInt ≤ 167 := ht.2 1 _
                  refine ⟨vin rfl (by omega) (by omega), ?_⟩
                  intro z_42 ez_42
                  have tz_42 : TM z_42 := by rw [ez_42]; exact Ty_wR tz10 trivial
                  have oz_42 : Same [21] [13] z z_42 := ocz10.r (by decide) ez_42
                  intro y_43 ey_43
                  have iy_43 : y_43.toInt = (v8.toInt + (1)) := by rw [ey_43]; exact (a_add rfl (show (1 : Int32).toInt = 1 by decide) (by omega) (by omega))
                  exact ih_15 y_43 z_42 tz_42 oz_42 (by omega) (by omega) (by omega)
          have g_47 : (0 : Int32).toInt = 0 := by decide
          exact L_12 ((400 - (0 : Int32).toInt).toNat + 1) ((0 : Int32)) z6 tz6 ocz6 (by omega) (by omega) (by omega)
        · skip
          have i_48 := i_nle (show (168 : Int32).toInt = 168 by decide) rfl c7
          refine ⟨vin rfl (by omega) (by omega), ?_⟩
          intro z19 ez19
          have tz19 : TM z19 := by rw [ez19]; exact Ty_wR tz6 trivial
          have oz19 : Same [21] [13] z z19 := ocz6.r (by decide) ez19
          intro x20 ex20
          have ix20 : x20.toInt = (v4.toInt + (1)) := by rw [ex20]; exact (a_add rfl (show (1 : Int32).toInt = 1 by decide) (by omega) (by omega))
          exact ih_8 x20 z19 tz19 oz19 (by omega) (by omega) (by omega)
    have g_49 : (0 : Int32).toInt = 0 := by decide
    exact L_5 ((168 - (0 : Int32).toInt).toNat + 1) ((0 : Int32)) z ht (Same.rf (z := z)) (by omega) (by omega) (by omega)

