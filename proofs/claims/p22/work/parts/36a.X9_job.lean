set_option maxHeartbeats 2000000 in
theorem s3_X9_job (b1 : Int32) (b2 : Int32) (b3 : Int32) (b4 : Int32) (b5 : Int32) (b6 : Int32) (b7 : Int32) (b8 : Int32) (z : St) (P : Int32 → St → Prop) (ht : TM z) (hrx : RM z)  (hk : ∀ (r : Int32) (z2 : St), TM z2 → Same [0, 1, 12] [6, 7, 8, 9, 10, 11, 12] z z2 → RM z2 → ((r.toInt = -1 ∧ (gI z2 12).toInt = (gI z 12).toInt ∧ ¬ GJ b2 b3 b4 b5 b6 b7 b8) ∨ (r.toInt = -2 ∧ (gI z2 12).toInt = (gI z 12).toInt ∧ (b1.toInt < 0 ∨ (gI z 8).toInt ≤ b1.toInt) ∧ GJ b2 b3 b4 b5 b6 b7 b8) ∨ (r.toInt = -5 ∧ (gI z2 12).toInt = (gI z 12).toInt ∧ (0 ≤ b1.toInt ∧ b1.toInt < (gI z 8).toInt) ∧ (gI z 12).toInt = 16 ∧ GJ b2 b3 b4 b5 b6 b7 b8) ∨ (r.toInt = (gI z 12).toInt ∧ (gI z2 12).toInt = (gI z 12).toInt + 1 ∧ (0 ≤ b1.toInt ∧ b1.toInt < (gI z 8).toInt) ∧ (gI z 12).toInt < 16 ∧ GJ b2 b3 b4 b5 b6 b7 b8)) → P r z2) : wp_X9_job b1 b2 b3 b4 b5 b6 b7 b8 z P := by
  unfold wp_X9_job
  intro z1 ez1
  have tz1 : TM z1 := by rw [ez1]; exact Ty_wI ht trivial
  have oz1 : Same [0, 1, 12] [6, 7, 8, 9, 10, 11, 12] z z1 := (Same.rf (z := z)).i (by decide) ez1
  have xz1 : RM z1 := by rw [ez1]; exact hrx
  refine s_X9_isHour b2 z1 _ tz1  (fun r3 hp_1 => ?_)
  rcases hp_1 with ⟨er3, hp_1⟩ | ⟨er3, hp_1⟩
  · subst er3
    intro K5 hK_2
    intro K49 hK_3
    refine ⟨fun hc => absurd hc (by decide), fun _ => ?_⟩
    refine s_X9_isHour b3 z1 _ tz1  (fun r52 hp_4 => ?_)
    rcases hp_4 with ⟨er52, hp_4⟩ | ⟨er52, hp_4⟩
    · subst er52
      refine ⟨fun hc => absurd hc (by decide), fun _ => ?_⟩
      refine ⟨fun c54 => ?_, fun c54 => ?_⟩
      · skip
        have i_5 := i_lt rfl rfl c54
        refine hK_3  ?_
        refine hK_2 ((0 : Int32)) ?_
        intro K_6 hK_45
        intro K_31 hK_46
        refine ⟨fun _ => ?_, fun hc => absurd (show ((0 : Int32)) = ((0 : Int32)) by decide) hc⟩
        refine hK_46  ?_
        refine hK_45 ((0 : Int32)) ?_
        refine ⟨fun hc => absurd hc (by decide), fun _ => ?_⟩
        have g_70 : (-1 : Int32).toInt = -1 := by decide
        refine s_X9_told ((-1 : Int32)) z1 _ tz1  (fun r_68 z_69 tz_69 o_72 hp_71 => ?_)
        have oz_69 : Same [0, 1, 12] [6, 7, 8, 9, 10, 11, 12] z z_69 := oz1.tr o_72 (by decide) (by decide)
        have xz_69 : RM z_69 := RM_same xz1 o_72 (by decide) (by decide)
        have f_73 : 0 ≤ (gI z_69 12).toInt ∧ (gI z_69 12).toInt ≤ 16 := tz_69.1 12
        have q_74 := ((o_72.fi 12 (by decide))).trans (show (gI z1 12).toInt = (gI z 12).toInt by rw [ez1]; rfl)
        have f_75 : 0 ≤ (gI z 12).toInt ∧ (gI z 12).toInt ≤ 16 := ht.1 12
        have f_76 : 0 ≤ (gI z 8).toInt ∧ (gI z 8).toInt ≤ 4 := ht.1 8
        exact hk r_68 z_69 tz_69 oz_69 xz_69 (by first | exact Or.inl ⟨(by omega), (by omega), fun g => by unfold GJ at g; omega⟩ | exact Or.inr (Or.inl ⟨(by omega), (by omega), (by omega), (by unfold GJ; exact ⟨by omega, by omega, by omega, by omega, by omega, by omega, fun _ => by omega, fun _ => by omega, fun _ => by omega⟩)⟩) | exact Or.inr (Or.inr (Or.inl ⟨(by omega), (by omega), (by omega), (by omega), (by unfold GJ; exact ⟨by omega, by omega, by omega, by omega, by omega, by omega, fun _ => by omega, fun _ => by omega, fun _ => by omega⟩)⟩)) | exact Or.inr (Or.inr (Or.inr ⟨(by omega), (by omega), (by omega), (by omega), (by unfold GJ; exact ⟨by omega, by omega, by omega, by omega, by omega, by omega, fun _ => by omega, fun _ => by omega, fun _ => by omega⟩)⟩)))
      · skip
        have i_77 := i_nlt rfl rfl c54
        refine ⟨fun c55 => ?_, fun c55 => ?_⟩
        · skip
          have i_78 := i_lt (show (23 : Int32).toInt = 23 by decide) (a_sub rfl rfl (by omega) (by omega)) c55
          refine hK_3  ?_
          refine hK_2 ((0 : Int32)) ?_
          intro K_79 hK_118
          intro K_104 hK_119
          refine ⟨fun _ => ?_, fun hc => absurd (show ((0 : Int32)) = ((0 : Int32)) by decide) hc⟩
          refine hK_119  ?_
          refine hK_118 ((0 : Int32)) ?_
          refine ⟨fun hc => absurd hc (by decide), fun _ => ?_⟩
          have g_143 : (-1 : Int32).toInt = -1 := by decide
          refine s_X9_told ((-1 : Int32)) z1 _ tz1  (fun r_141 z_142 tz_142 o_145 hp_144 => ?_)
          have oz_142 : Same [0, 1, 12] [6, 7, 8, 9, 10, 11, 12] z z_142 := oz1.tr o_145 (by decide) (by decide)
          have xz_142 : RM z_142 := RM_same xz1 o_145 (by decide) (by decide)
          have f_146 : 0 ≤ (gI z_142 12).toInt ∧ (gI z_142 12).toInt ≤ 16 := tz_142.1 12
          have q_147 := ((o_145.fi 12 (by decide))).trans (show (gI z1 12).toInt = (gI z 12).toInt by rw [ez1]; rfl)
          have f_148 : 0 ≤ (gI z 12).toInt ∧ (gI z 12).toInt ≤ 16 := ht.1 12
          have f_149 : 0 ≤ (gI z 8).toInt ∧ (gI z 8).toInt ≤ 4 := ht.1 8
          exact hk r_141 z_142 tz_142 oz_142 xz_142 (by first | exact Or.inl ⟨(by omega), (by omega), fun g => by unfold GJ at g; omega⟩ | exact Or.inr (Or.inl ⟨(by omega), (by omega), (by omega), (by unfold GJ; exact ⟨by omega, by omega, by omega, by omega, by omega, by omega, fun _ => by omega, fun _ => by omega, fun _ => by omega⟩)⟩) | exact Or.inr (Or.inr (Or.inl ⟨(by omega), (by omega), (by omega), (by omega), (by unfold GJ; exact ⟨by omega, by omega, by omega, by omega, by omega, by omega, fun _ => by omega, fun _ => by omega, fun _ => by omega⟩)⟩)) | exact Or.inr (Or.inr (Or.inr ⟨(by omega), (by omega), (by omega), (by omega), (by unfold GJ; exact ⟨by omega, by omega, by omega, by omega, by omega, by omega, fun _ => by omega, fun _ => by omega, fun _ => by omega⟩)⟩)))
        · skip
          have i_150 := i_nlt (show (23 : Int32).toInt = 23 by decide) (a_sub rfl rfl (by omega) (by omega)) c55
          have g_151 : (Int32.toInt64 b4).toInt = b4.toInt := (a_wide rfl)
          have g_152 : (1 : Int64).toInt = 1 := by decide
          have g_153 : (4 : Int64).toInt = 4 := by decide
          refine s_X9_in (Int32.toInt64 b4) ((1 : Int64)) ((4 : Int64)) z1 _ tz1  (fun r57 hp_154 => ?_)
          rcases hp_154 with ⟨er57, hp_154⟩ | ⟨er57, hp_154⟩
          · subst er57
            refine ⟨fun hc => absurd hc (by decide), fun _ => ?_⟩
            have g_155 : (Int32.toInt64 b5).toInt = b5.toInt := (a_wide rfl)
            have g_156 : (0 : Int64).toInt = 0 := by decide
            have g_157 : (5000 : Int64).toInt = 5000 := by decide
            refine s_X9_in (Int32.toInt64 b5) ((0 : Int64)) ((5000 : Int64)) z1 _ tz1  (fun r60 hp_158 => ?_)
            rcases hp_158 with ⟨er60, hp_158⟩ | ⟨er60, hp_158⟩
            · subst er60
              refine ⟨fun hc => absurd hc (by decide), fun _ => ?_⟩
              refine hK_2 ((1 : Int32)) ?_
              intro K_159 hK_198
              intro K_184 hK_199
              refine ⟨fun hc => absurd hc (by decide), fun _ => ?_⟩
              intro K_186 hK_200
              refine ⟨fun c_195 => ?_, fun c_195 => ?_⟩
              · skip
                have i_201 := i_lt rfl (show (2 : Int32).toInt = 2 by decide) c_195
                refine hK_200  ?_
                intro K_202 hK_210
                refine ⟨fun c_207 => ?_, fun c_207 => ?_⟩
                · skip
                  have i_211 := i_lt rfl (show (3 : Int32).toInt = 3 by decide) c_207
                  refine hK_210  ?_
                  intro K_212 hK_216
                  refine ⟨fun c_213 => ?_, fun c_213 => ?_⟩
                  · skip
                    have i_217 := i_lt rfl (show (4 : Int32).toInt = 4 by decide) c_213
                    refine hK_216  ?_
                    refine hK_198 ((1 : Int32)) ?_
                    refine ⟨fun _ => ?_, fun hc => absurd hc (by decide)⟩
                    refine s_X9_isHome b1 z1 _ tz1  (fun r_219 hp_241 => ?_)
                    rcases hp_241 with ⟨er_219, hp_241⟩ | ⟨er_219, hp_241⟩
                    · subst er_219
                      have f_242 : 0 ≤ (gI z1 8).toInt ∧ (gI z1 8).toInt ≤ 4 := tz1.1 8
                      have q_243 := (show (gI z1 8).toInt = (gI z 8).toInt by rw [ez1]; rfl)
                      have f_244 : 0 ≤ (gI z 8).toInt ∧ (gI z 8).toInt ≤ 4 := ht.1 8
                      refine ⟨fun _ => ?_, fun hc => absurd hc (by decide)⟩
                      refine ⟨fun c_221 => ?_, fun c_221 => ?_⟩
                      · skip
                        have f_245 : 0 ≤ (gI z1 12).toInt ∧ (gI z1 12).toInt ≤ 16 := tz1.1 12
                        have q_246 := (show (gI z1 12).toInt = (gI z 12).toInt by rw [ez1]; rfl)
                        have f_247 : 0 ≤ (gI z 12).toInt ∧ (gI z 12).toInt ≤ 16 := ht.1 12
                        have i_248 := i_ne rfl (show (16 : Int32).toInt = 16 by decide) c_221
                        refine ⟨vin rfl (by omega) (by omega), ?_⟩
                        intro z_222 ez_222
                        have tz_222 : TM z_222 := by rw [ez_222]; exact Ty_wR tz1 (show 0 ≤ b1.toInt ∧ b1.toInt ≤ 3 from by omega)
                        have oz_222 : Same [0, 1, 12] [6, 7, 8, 9, 10, 11, 12] z z_222 := oz1.r (by decide) ez_222
                        have xz_222 : RM z_222 := by rw [ez_222]; exact xz1
                        have f_249 : 0 ≤ (gI z_222 12).toInt ∧ (gI z_222 12).toInt ≤ 16 := tz_222.1 12
                        have q_250 := ((show (gI z_222 12).toInt = (gI z1 12).toInt by rw [ez_222]; rfl)).trans (show (gI z1 12).toInt = (gI z 12).toInt by rw [ez1]; rfl)
                        refine ⟨vin rfl (by omega) (by omega), ?_⟩
                        intro z_223 ez_223
                        have tz_223 : TM z_223 := by rw [ez_223]; exact Ty_wR tz_222 (show 0 ≤ b2.toInt ∧ b2.toInt ≤ 167 from by omega)
                        have oz_223 : Same [0, 1, 12] [6, 7, 8, 9, 10, 11, 12] z z_223 := oz_222.r (by decide) ez_223
                        have f_251 : 0 ≤ (gI z_223 12).toInt ∧ (gI z_223 12).toInt ≤ 16 := tz_223.1 12
                        have q_252 := (((show (gI z_223 12).toInt = (gI z_222 12).toInt by rw [ez_223]; rfl)).trans (show (gI z_222 12).toInt = (gI z1 12).toInt by rw [ez_222]; rfl)).trans (show (gI z1 12).toInt = (gI z 12).toInt by rw [ez1]; rfl)
                        refine ⟨vin rfl (by omega) (by omega), ?_⟩
                        intro z_224 ez_224
                        have tz_224 : TM z_224 := by rw [ez_224]; exact Ty_wR tz_223 (show 0 ≤ b3.toInt ∧ b3.toInt ≤ 167 from by omega)
                        have oz_224 : Same [0, 1, 12] [6, 7, 8, 9, 10, 11, 12] z z_224 := oz_223.r (by decide) ez_224
                        have xz_224 : RM z_224 := RM_job xz_222 ez_223 ez_224 (by rw [ez_223]; rfl) (by omega)
                        have f_253 : 0 ≤ (gI z_224 12).toInt ∧ (gI z_224 12).toInt ≤ 16 := tz_224.1 12
                        have q_254 := ((((show (gI z_224 12).toInt = (gI z_223 12).toInt by rw [ez_224]; rfl)).trans (show (gI z_223 12).toInt = (gI z_222 12).toInt by rw [ez_223]; rfl)).trans (show (gI z_222 12).toInt = (gI z1 12).toInt by rw [ez_222]; rfl)).trans (show (gI z1 12).toInt = (gI z 12).toInt by rw [ez1]; rfl)
                        refine ⟨vin rfl (by omega) (by omega), ?_⟩
                        intro z_225 ez_225
                        have tz_225 : TM z_225 := by rw [ez_225]; exact Ty_wR tz_224 (show 0 ≤ b4.toInt ∧ b4.toInt ≤ 4 from by omega)
                        have oz_225 : Same [0, 1, 12] [6, 7, 8, 9, 10, 11, 12] z z_225 := oz_224.r (by decide) ez_225
                        have xz_225 : RM z_225 := by rw [ez_225]; exact xz_224
                        have f_255 : 0 ≤ (gI z_225 12).toInt ∧ (gI z_225 12).toInt ≤ 16 := tz_225.1 12
                        have q_256 := (((((show (gI z_225 12).toInt = (gI z_224 12).toInt by rw [ez_225]; rfl)).trans (show (gI z_224 12).toInt = (gI z_223 12).toInt by rw [ez_224]; rfl)).trans (show (gI z_223 12).toInt = (gI z_222 12).toInt by rw [ez_223]; rfl)).trans (show (gI z_222 12).toInt = (gI z1 12).toInt by rw [ez_222]; rfl)).trans (show (gI z1 12).toInt = (gI z 12).toInt by rw [ez1]; rfl)
                        refine ⟨vin (a_mul (show (4 : Int32).toInt = 4 by decide) rfl (by omega) (by omega)) (by omega) (by omega), ?_⟩
                        intro z_226 ez_226
                        have tz_226 : TM z_226 := by rw [ez_226]; exact Ty_wR tz_225 trivial
                        have oz_226 : Same [0, 1, 12] [6, 7, 8, 9, 10, 11, 12] z z_226 := oz_225.r (by decide) ez_226
                        have xz_226 : RM z_226 := by rw [ez_226]; exact xz_225
                        have f_257 : 0 ≤ (gI z_226 12).toInt ∧ (gI z_226 12).toInt ≤ 16 := tz_226.1 12
                        have q_258 := ((((((show (gI z_226 12).toInt = (gI z_225 12).toInt by rw [ez_226]; rfl)).trans (show (gI z_225 12).toInt = (gI z_224 12).toInt by rw [ez_225]; rfl)).trans (show (gI z_224 12).toInt = (gI z_223 12).toInt by rw [ez_224]; rfl)).trans (show (gI z_223 12).toInt = (gI z_222 12).toInt by rw [ez_223]; rfl)).trans (show (gI z_222 12).toInt = (gI z1 12).toInt by rw [ez_222]; rfl)).trans (show (gI z1 12).toInt = (gI z 12).toInt by rw [ez1]; rfl)
                        refine ⟨vin (a_add (a_mul (show (4 : Int32).toInt = 4 by decide) rfl (by omega) (by omega)) (show (1 : Int32).toInt = 1 by decide) (by omega) (by omega)) (by omega) (by omega), ?_⟩
                        intro z_227 ez_227
                        have tz_227 : TM z_227 := by rw [ez_227]; exact Ty_wR tz_226 trivial
                        have oz_227 : Same [0, 1, 12] [6, 7, 8, 9, 10, 11, 12] z z_227 := oz_226.r (by decide) ez_227
                        have xz_227 : RM z_227 := by rw [ez_227]; exact xz_226
                        have f_259 : 0 ≤ (gI z_227 12).toInt ∧ (gI z_227 12).toInt ≤ 16 := tz_227.1 12
                        have q_260 := (((((((show (gI z_227 12).toInt = (gI z_226 12).toInt by rw [ez_227]; rfl)).trans (show (gI z_226 12).toInt = (gI z_225 12).toInt by rw [ez_226]; rfl)).trans (show (gI z_225 12).toInt = (gI z_224 12).toInt by rw [ez_225]; rfl)).trans (show (gI z_224 12).toInt = (gI z_223 12).toInt by rw [ez_224]; rfl)).trans (show (gI z_223 12).toInt = (gI z_222 12).toInt by rw [ez_223]; rfl)).trans (show (gI z_222 12).toInt = (gI z1 12).toInt by rw [ez_222]; rfl)).trans (show (gI z1 12).toInt = (gI z 12).toInt by rw [ez1]; rfl)
                        refine ⟨vin (a_add (a_mul (show (4 : Int32).toInt = 4 by decide) rfl (by omega) (by omega)) (show (2 : Int32).toInt = 2 by decide) (by omega) (by omega)) (by omega) (by omega), ?_⟩
                        intro z_228 ez_228
                        have tz_228 : TM z_228 := by rw [ez_228]; exact Ty_wR tz_227 trivial
                        have oz_228 : Same [0, 1, 12] [6, 7, 8, 9, 10, 11, 12] z z_228 := oz_227.r (by decide) ez_228
                        have xz_228 : RM z_228 := by rw [ez_228]; exact xz_227
                        have f_261 : 0 ≤ (gI z_228 12).toInt ∧ (gI z_228 12).toInt ≤ 16 := tz_228.1 12
                        have q_262 := ((((((((show (gI z_228 12).toInt = (gI z_227 12).toInt by rw [ez_228]; rfl)).trans (show (gI z_227 12).toInt = (gI z_226 12).toInt by rw [ez_227]; rfl)).trans (show (gI z_226 12).toInt = (gI z_225 12).toInt by rw [ez_226]; rfl)).trans (show (gI z_225 12).toInt = (gI z_224 12).toInt by rw [ez_225]; rfl)).trans (show (gI z_224 12).toInt = (gI z_223 12).toInt by rw [ez_224]; rfl)).trans (show (gI z_223 12).toInt = (gI z_222 12).toInt by rw [ez_223]; rfl)).trans (show (gI z_222 12).toInt = (gI z1 12).toInt by rw [ez_222]; rfl)).trans (show (gI z1 12).toInt = (gI z 12).toInt by rw [ez1]; rfl)
                        refine ⟨vin (a_add (a_mul (show (4 : Int32).toInt = 4 by decide) rfl (by omega) (by omega)) (show (3 : Int32).toInt = 3 by decide) (by omega) (by omega)) (by omega) (by omega), ?_⟩
                        intro z_229 ez_229
                        have tz_229 : TM z_229 := by rw [ez_229]; exact Ty_wR tz_228 trivial
                        have oz_229 : Same [0, 1, 12] [6, 7, 8, 9, 10, 11, 12] z z_229 := oz_228.r (by decide) ez_229
                        have xz_229 : RM z_229 := by rw [ez_229]; exact xz_228
                        have f_263 : 0 ≤ (gI z_229 12).toInt ∧ (gI z_229 12).toInt ≤ 16 := tz_229.1 12
                        have q_264 := (((((((((show (gI z_229 12).toInt = (gI z_228 12).toInt by rw [ez_229]; rfl)).trans (show (gI z_228 12).toInt = (gI z_227 12).toInt by rw [ez_228]; rfl)).trans (show (gI z_227 12).toInt = (gI z_226 12).toInt by rw [ez_227]; rfl)).trans (show (gI z_226 12).toInt = (gI z_225 12).toInt by rw [ez_226]; rfl)).trans (show (gI z_225 12).toInt = (gI z_224 12).toInt by rw [ez_225]; rfl)).trans (show (gI z_224 12).toInt = (gI z_223 12).toInt by rw [ez_224]; rfl)).trans (show (gI z_223 12).toInt = (gI z_222 12).toInt by rw [ez_223]; rfl)).trans (show (gI z_222 12).toInt = (gI z1 12).toInt by rw [ez_222]; rfl)).trans (show (gI z1 12).toInt = (gI z 12).toInt by rw [ez1]; rfl)
                        refine ⟨vin rfl (by omega) (by omega), ?_⟩
                        intro z_230 ez_230
                        have tz_230 : TM z_230 := by rw [ez_230]; exact Ty_wR tz_229 trivial
                        have oz_230 : Same [0, 1, 12] [6, 7, 8, 9, 10, 11, 12] z z_230 := oz_229.r (by decide) ez_230
                        have xz_230 : RM z_230 := by rw [ez_230]; exact xz_229
                        have f_265 : 0 ≤ (gI z_230 12).toInt ∧ (gI z_230 12).toInt ≤ 16 := tz_230.1 12
                        have q_266 := ((((((((((show (gI z_230 12).toInt = (gI z_229 12).toInt by rw [ez_230]; rfl)).trans (show (gI z_229 12).toInt = (gI z_228 12).toInt by rw [ez_229]; rfl)).trans (show (gI z_228 12).toInt = (gI z_227 12).toInt by rw [ez_228]; rfl)).trans (show (gI z_227 12).toInt = (gI z_226 12).toInt by rw [ez_227]; rfl)).trans (show (gI z_226 12).toInt = (gI z_225 12).toInt by rw [ez_226]; rfl)).trans (show (gI z_225 12).toInt = (gI z_224 12).toInt by rw [ez_225]; rfl)).trans (show (gI z_224 12).toInt = (gI z_223 12).toInt by rw [ez_224]; rfl)).trans (show (gI z_223 12).toInt = (gI z_222 12).toInt by rw [ez_223]; rfl)).trans (show (gI z_222 12).toInt = (gI z1 12).toInt by rw [ez_222]; rfl)).trans (show (gI z1 12).toInt = (gI z 12).toInt by rw [ez1]; rfl)
                        refine ⟨vin rfl (by omega) (by omega), ?_⟩
                        intro z_231 ez_231
                        have tz_231 : TM z_231 := by rw [ez_231]; exact Ty_wR tz_230 trivial
                        have oz_231 : Same [0, 1, 12] [6, 7, 8, 9, 10, 11, 12] z z_231 := oz_230.r (by decide) ez_231
                        have xz_231 : RM z_231 := by rw [ez_231]; exact xz_230
                        intro z_232 ez_232
                        have f_267 : 0 ≤ (gI z_231 12).toInt ∧ (gI z_231 12).toInt ≤ 16 := tz_231.1 12
                        have q_268 := (((((((((((show (gI z_231 12).toInt = (gI z_230 12).toInt by rw [ez_231]; rfl)).trans (show (gI z_230 12).toInt = (gI z_229 12).toInt by rw [ez_230]; rfl)).trans (show (gI z_229 12).toInt = (gI z_228 12).toInt by rw [ez_229]; rfl)).trans (show (gI z_228 12).toInt = (gI z_227 12).toInt by rw [ez_228]; rfl)).trans (show (gI z_227 12).toInt = (gI z_226 12).toInt by rw [ez_227]; rfl)).trans (show (gI z_226 12).toInt = (gI z_225 12).toInt by rw [ez_226]; rfl)).trans (show (gI z_225 12).toInt = (gI z_224 12).toInt by rw [ez_225]; rfl)).trans (show (gI z_224 12).toInt = (gI z_223 12).toInt by rw [ez_224]; rfl)).trans (show (gI z_223 12).toInt = (gI z_222 12).toInt by rw [ez_223]; rfl)).trans (show (gI z_222 12).toInt = (gI z1 12).toInt by rw [ez_222]; rfl)).trans (show (gI z1 12).toInt = (gI z 12).toInt by rw [ez1]; rfl)
                        have tz_232 : TM z_232 := by rw [ez_232]; exact Ty_wI tz_231 (show 0 ≤ ((gI z_231 12) + (1 : Int32)).toInt ∧ ((gI z_231 12) + (1 : Int32)).toInt ≤ 16 from by rw [(a_add rfl (show (1 : Int32).toInt = 1 by decide) (by omega) (by omega))]; omega)
                        have oz_232 : Same [0, 1, 12] [6, 7, 8, 9, 10, 11, 12] z z_232 := oz_231.i (by decide) ez_232
                        have xz_232 : RM z_232 := by rw [ez_232]; exact xz_231
                        have f_269 : 0 ≤ (gI z_232 12).toInt ∧ (gI z_232 12).toInt ≤ 16 := tz_232.1 12
                        have q_270 := (show (gI z_232 12).toInt = ((gI z_231 12) + (1 : Int32)).toInt by rw [ez_232]; rfl)
                        have q_271 : ((gI z_231 12) + (1 : Int32)).toInt = ((gI z_231 12).toInt + (1)) := (a_add rfl (show (1 : Int32).toInt = 1 by decide) (by omega) (by omega))
                        have g_272 : ((gI z_232 12) - (1 : Int32)).toInt = ((gI z_232 12).toInt - (1)) := (a_sub rfl (show (1 : Int32).toInt = 1 by decide) (by omega) (by omega))
                        refine s_X9_told ((gI z_232 12) - ((1 : Int32))) z_232 _ tz_232  (fun r_233 z_234 tz_234 o_274 hp_273 => ?_)
                        have oz_234 : Same [0, 1, 12] [6, 7, 8, 9, 10, 11, 12] z z_234 := oz_232.tr o_274 (by decide) (by decide)
                        have xz_234 : RM z_234 := RM_same xz_232 o_274 (by decide) (by decide)
                        have f_275 : 0 ≤ (gI z_234 12).toInt ∧ (gI z_234 12).toInt ≤ 16 := tz_234.1 12
                        have q_276 := ((o_274.fi 12 (by decide))).trans (show (gI z_232 12).toInt = ((gI z_231 12) + (1 : Int32)).toInt by rw [ez_232]; rfl)
                        have q_277 : ((gI z_231 12) + (1 : Int32)).toInt = ((gI z_231 12).toInt + (1)) := (a_add rfl (show (1 : Int32).toInt = 1 by decide) (by omega) (by omega))
                        exact hk r_233 z_234 tz_234 oz_234 xz_234 (by first | exact Or.inl ⟨(by omega), (by omega), fun g => by unfold GJ at g; omega⟩ | exact Or.inr (Or.inl ⟨(by omega), (by omega), (by omega), (by unfold GJ; exact ⟨by omega, by omega, by omega, by omega, by omega, by omega, fun _ => by omega, fun _ => by omega, fun _ => by omega⟩)⟩) | exact Or.inr (Or.inr (Or.inl ⟨(by omega), (by omega), (by omega), (by omega), (by unfold GJ; exact ⟨by omega, by omega, by omega, by omega, by omega, by omega, fun _ => by omega, fun _ => by omega, fun _ => by omega⟩)⟩)) | exact Or.inr (Or.inr (Or.inr ⟨(by omega), (by omega), (by omega), (by omega), (by unfold GJ; exact ⟨by omega, by omega, by omega, by omega, by omega, by omega, fun _ => by omega, fun _ => by omega, fun _ => by omega⟩)⟩)))
                      · skip
                        have f_278 : 0 ≤ (gI z1 12).toInt ∧ (gI z1 12).toInt ≤ 16 := tz1.1 12
                        have q_279 := (show (gI z1 12).toInt = (gI z 12).toInt by rw [ez1]; rfl)
                        have f_280 : 0 ≤ (gI z 12).toInt ∧ (gI z 12).toInt ≤ 16 := ht.1 12
                        have i_281 := i_eq rfl (show (16 : Int32).toInt = 16 by decide) c_221
                        have g_282 : (-5 : Int32).toInt = -5 := by decide
                        refine s_X9_told ((-5 : Int32)) z1 _ tz1  (fun r_235 z_236 tz_236 o_284 hp_283 => ?_)
                        have oz_236 : Same [0, 1, 12] [6, 7, 8, 9, 10, 11, 12] z z_236 := oz1.tr o_284 (by decide) (by decide)
                        have xz_236 : RM z_236 := RM_same xz1 o_284 (by decide) (by decide)
                        have f_285 : 0 ≤ (gI z_236 12).toInt ∧ (gI z_236 12).toInt ≤ 16 := tz_236.1 12
                        have q_286 := ((o_284.fi 12 (by decide))).trans (show (gI z1 12).toInt = (gI z 12).toInt by rw [ez1]; rfl)
                        exact hk r_235 z_236 tz_236 oz_236 xz_236 (by first | exact Or.inl ⟨(by omega), (by omega), fun g => by unfold GJ at g; omega⟩ | exact Or.inr (Or.inl ⟨(by omega), (by omega), (by omega), (by unfold GJ; exact ⟨by omega, by omega, by omega, by omega, by omega, by omega, fun _ => by omega, fun _ => by omega, fun _ => by omega⟩)⟩) | exact Or.inr (Or.inr (Or.inl ⟨(by omega), (by omega), (by omega), (by omega), (by unfold GJ; exact ⟨by omega, by omega, by omega, by omega, by omega, by omega, fun _ => by omega, fun _ => by omega, fun _ => by omega⟩)⟩)) | exact Or.inr (Or.inr (Or.inr ⟨(by omega), (by omega), (by omega), (by omega), (by unfold GJ; exact ⟨by omega, by omega, by omega, by omega, by omega, by omega, fun _ => by omega, fun _ => by omega, fun _ => by omega⟩)⟩)))
                    · subst er_219
                      have f_287 : 0 ≤ (gI z1 8).toInt ∧ (gI z1 8).toInt ≤ 4 := tz1.1 8
                      have q_288 := (show (gI z1 8).toInt = (gI z 8).toInt by rw [ez1]; rfl)
                      have f_289 : 0 ≤ (gI z 8).toInt ∧ (gI z 8).toInt ≤ 4 := ht.1 8
                      refine ⟨fun hc => absurd hc (by decide), fun _ => ?_⟩
                      have g_290 : (-2 : Int32).toInt = -2 := by decide
                      refine s_X9_told ((-2 : Int32)) z1 _ tz1  (fun r_237 z_238 tz_238 o_292 hp_291 => ?_)
                      have oz_238 : Same [0, 1, 12] [6, 7, 8, 9, 10, 11, 12] z z_238 := oz1.tr o_292 (by decide) (by decide)
                      have xz_238 : RM z_238 := RM_same xz1 o_292 (by decide) (by decide)
                      have f_293 : 0 ≤ (gI z_238 12).toInt ∧ (gI z_238 12).toInt ≤ 16 := tz_238.1 12
                      have q_294 := ((o_292.fi 12 (by decide))).trans (show (gI z1 12).toInt = (gI z 12).toInt by rw [ez1]; rfl)
                      have f_295 : 0 ≤ (gI z 12).toInt ∧ (gI z 12).toInt ≤ 16 := ht.1 12
                      exact hk r_237 z_238 tz_238 oz_238 xz_238 (by first | exact Or.inl ⟨(by omega), (by omega), fun g => by unfold GJ at g; omega⟩ | exact Or.inr (Or.inl ⟨(by omega), (by omega), (by omega), (by unfold GJ; exact ⟨by omega, by omega, by omega, by omega, by omega, by omega, fun _ => by omega, fun _ => by omega, fun _ => by omega⟩)⟩) | exact Or.inr (Or.inr (Or.inl ⟨(by omega), (by omega), (by omega), (by omega), (by unfold GJ; exact ⟨by omega, by omega, by omega, by omega, by omega, by omega, fun _ => by omega, fun _ => by omega, fun _ => by omega⟩)⟩)) | exact Or.inr (Or.inr (Or.inr ⟨(by omega), (by omega), (by omega), (by omega), (by unfold GJ; exact ⟨by omega, by omega, by omega, by omega, by omega, by omega, fun _ => by omega, fun _ => by omega, fun _ => by omega⟩)⟩)))
                  · skip
                    have i_296 := i_nlt rfl (show (4 : Int32).toInt = 4 by decide) c_213
                    have g_297 : (Int32.toInt64 b8).toInt = b8.toInt := (a_wide rfl)
                    have g_298 : (0 : Int64).toInt = 0 := by decide
                    have g_299 : (5000 : Int64).toInt = 5000 := by decide
                    refine s_X9_in (Int32.toInt64 b8) ((0 : Int64)) ((5000 : Int64)) z1 _ tz1  (fun r_214 hp_300 => ?_)
                    rcases hp_300 with ⟨er_214, hp_300⟩ | ⟨er_214, hp_300⟩
                    · subst er_214
                      refine ⟨fun hc => absurd hc (by decide), fun _ => ?_⟩
                      refine hK_216  ?_
                      refine hK_198 ((1 : Int32)) ?_
                      refine ⟨fun _ => ?_, fun hc => absurd hc (by decide)⟩
                      refine s_X9_isHome b1 z1 _ tz1  (fun r_302 hp_324 => ?_)
                      rcases hp_324 with ⟨er_302, hp_324⟩ | ⟨er_302, hp_324⟩
                      · subst er_302
                        have f_325 : 0 ≤ (gI z1 8).toInt ∧ (gI z1 8).toInt ≤ 4 := tz1.1 8
                        have q_326 := (show (gI z1 8).toInt = (gI z 8).toInt by rw [ez1]; rfl)
                        have f_327 : 0 ≤ (gI z 8).toInt ∧ (gI z 8).toInt ≤ 4 := ht.1 8
                        refine ⟨fun _ => ?_, fun hc => absurd hc (by decide)⟩
                        refine ⟨fun c_304 => ?_, fun c_304 => ?_⟩
                        · skip
                          have f_328 : 0 ≤ (gI z1 12).toInt ∧ (gI z1 12).toInt ≤ 16 := tz1.1 12
                          have q_329 := (show (gI z1 12).toInt = (gI z 12).toInt by rw [ez1]; rfl)
                          have f_330 : 0 ≤ (gI z 12).toInt ∧ (gI z 12).toInt ≤ 16 := ht.1 12
                          have i_331 := i_ne rfl (show (16 : Int32).toInt = 16 by decide) c_304
                          refine ⟨vin rfl (by omega) (by omega), ?_⟩
                          intro z_305 ez_305
                          have tz_305 : TM z_305 := by rw [ez_305]; exact Ty_wR tz1 (show 0 ≤ b1.toInt ∧ b1.toInt ≤ 3 from by omega)
                          have oz_305 : Same [0, 1, 12] [6, 7, 8, 9, 10, 11, 12] z z_305 := oz1.r (by decide) ez_305
                          have xz_305 : RM z_305 := by rw [ez_305]; exact xz1
                          have f_332 : 0 ≤ (gI z_305 12).toInt ∧ (gI z_305 12).toInt ≤ 16 := tz_305.1 12
                          have q_333 := ((show (gI z_305 12).toInt = (gI z1 12).toInt by rw [ez_305]; rfl)).trans (show (gI z1 12).toInt = (gI z 12).toInt by rw [ez1]; rfl)
                          refine ⟨vin rfl (by omega) (by omega), ?_⟩
                          intro z_306 ez_306
                          have tz_306 : TM z_306 := by rw [ez_306]; exact Ty_wR tz_305 (show 0 ≤ b2.toInt ∧ b2.toInt ≤ 167 from by omega)
                          have oz_306 : Same [0, 1, 12] [6, 7, 8, 9, 10, 11, 12] z z_306 := oz_305.r (by decide) ez_306
                          have f_334 : 0 ≤ (gI z_306 12).toInt ∧ (gI z_306 12).toInt ≤ 16 := tz_306.1 12
                          have q_335 := (((show (gI z_306 12).toInt = (gI z_305 12).toInt by rw [ez_306]; rfl)).trans (show (gI z_305 12).toInt = (gI z1 12).toInt by rw [ez_305]; rfl)).trans (show (gI z1 12).toInt = (gI z 12).toInt by rw [ez1]; rfl)
                          refine ⟨vin rfl (by omega) (by omega), ?_⟩
                          intro z_307 ez_307
                          have tz_307 : TM z_307 := by rw [ez_307]; exact Ty_wR tz_306 (show 0 ≤ b3.toInt ∧ b3.toInt ≤ 167 from by omega)
                          have oz_307 : Same [0, 1, 12] [6, 7, 8, 9, 10, 11, 12] z z_307 := oz_306.r (by decide) ez_307
                          have xz_307 : RM z_307 := RM_job xz_305 ez_306 ez_307 (by rw [ez_306]; rfl) (by omega)
                          have f_336 : 0 ≤ (gI z_307 12).toInt ∧ (gI z_307 12).toInt ≤ 16 := tz_307.1 12
                          have q_337 := ((((show (gI z_307 12).toInt = (gI z_306 12).toInt by rw [ez_307]; rfl)).trans (show (gI z_306 12).toInt = (gI z_305 12).toInt by rw [ez_306]; rfl)).trans (show (gI z_305 12).toInt = (gI z1 12).toInt by rw [ez_305]; rfl)).trans (show (gI z1 12).toInt = (gI z 12).toInt by rw [ez1]; rfl)
                          refine ⟨vin rfl (by omega) (by omega), ?_⟩
                          intro z_308 ez_308
                          have tz_308 : TM z_308 := by rw [ez_308]; exact Ty_wR tz_307 (show 0 ≤ b4.toInt ∧ b4.toInt ≤ 4 from by omega)
                          have oz_308 : Same [0, 1, 12] [6, 7, 8, 9, 10, 11, 12] z z_308 := oz_307.r (by decide) ez_308
                          have xz_308 : RM z_308 := by rw [ez_308]; exact xz_307
                          have f_338 : 0 ≤ (gI z_308 12).toInt ∧ (gI z_308 12).toInt ≤ 16 := tz_308.1 12
                          have q_339 := (((((show (gI z_308 12).toInt = (gI z_307 12).toInt by rw [ez_308]; rfl)).trans (show (gI z_307 12).toInt = (gI z_306 12).toInt by rw [ez_307]; rfl)).trans (show (gI z_306 12).toInt = (gI z_305 12).toInt by rw [ez_306]; rfl)).trans (show (gI z_305 12).toInt = (gI z1 12).toInt by rw [ez_305]; rfl)).trans (show (gI z1 12).toInt = (gI z 12).toInt by rw [ez1]; rfl)
                          refine ⟨vin (a_mul (show (4 : Int32).toInt = 4 by decide) rfl (by omega) (by omega)) (by omega) (by omega), ?_⟩
                          intro z_309 ez_309
                          have tz_309 : TM z_309 := by rw [ez_309]; exact Ty_wR tz_308 trivial
                          have oz_309 : Same [0, 1, 12] [6, 7, 8, 9, 10, 11, 12] z z_309 := oz_308.r (by decide) ez_309
                          have xz_309 : RM z_309 := by rw [ez_309]; exact xz_308
                          have f_340 : 0 ≤ (gI z_309 12).toInt ∧ (gI z_309 12).toInt ≤ 16 := tz_309.1 12
                          have q_341 := ((((((show (gI z_309 12).toInt = (gI z_308 12).toInt by rw [ez_309]; rfl)).trans (show (gI z_308 12).toInt = (gI z_307 12).toInt by rw [ez_308]; rfl)).trans (show (gI z_307 12).toInt = (gI z_306 12).toInt by rw [ez_307]; rfl)).trans (show (gI z_306 12).toInt = (gI z_305 12).toInt by rw [ez_306]; rfl)).trans (show (gI z_305 12).toInt = (gI z1 12).toInt by rw [ez_305]; rfl)).trans (show (gI z1 12).toInt = (gI z 12).toInt by rw [ez1]; rfl)
                          refine ⟨vin (a_add (a_mul (show (4 : Int32).toInt = 4 by decide) rfl (by omega) (by omega)) (show (1 : Int32).toInt = 1 by decide) (by omega) (by omega)) (by omega) (by omega), ?_⟩
                          intro z_310 ez_310
                          have tz_310 : TM z_310 := by rw [ez_310]; exact Ty_wR tz_309 trivial
                          have oz_310 : Same [0, 1, 12] [6, 7, 8, 9, 10, 11, 12] z z_310 := oz_309.r (by decide) ez_310
                          have xz_310 : RM z_310 := by rw [ez_310]; exact xz_309
                          have f_342 : 0 ≤ (gI z_310 12).toInt ∧ (gI z_310 12).toInt ≤ 16 := tz_310.1 12
                          have q_343 := (((((((show (gI z_310 12).toInt = (gI z_309 12).toInt by rw [ez_310]; rfl)).trans (show (gI z_309 12).toInt = (gI z_308 12).toInt by rw [ez_309]; rfl)).trans (show (gI z_308 12).toInt = (gI z_307 12).toInt by rw [ez_308]; rfl)).trans (show (gI z_307 12).toInt = (gI z_306 12).toInt by rw [ez_307]; rfl)).trans (show (gI z_306 12).toInt = (gI z_305 12).toInt by rw [ez_306]; rfl)).trans (show (gI z_305 12).toInt = (gI z1 12).toInt by rw [ez_305]; rfl)).trans (show (gI z1 12).toInt = (gI z 12).toInt by rw [ez1]; rfl)
                          refine ⟨vin (a_add (a_mul (show (4 : Int32).toInt = 4 by decide) rfl (by omega) (by omega)) (show (2 : Int32).toInt = 2 by decide) (by omega) (by omega)) (by omega) (by omega), ?_⟩
                          intro z_311 ez_311
                          have tz_311 : TM z_311 := by rw [ez_311]; exact Ty_wR tz_310 trivial
                          have oz_311 : Same [0, 1, 12] [6, 7, 8, 9, 10, 11, 12] z z_311 := oz_310.r (by decide) ez_311
                          have xz_311 : RM z_311 := by rw [ez_311]; exact xz_310
                          have f_344 : 0 ≤ (gI z_311 12).toInt ∧ (gI z_311 12).toInt ≤ 16 := tz_311.1 12
                          have q_345 := ((((((((show (gI z_311 12).toInt = (gI z_310 12).toInt by rw [ez_311]; rfl)).trans (show (gI z_310 12).toInt = (gI z_309 12).toInt by rw [ez_310]; rfl)).trans (show (gI z_309 12).toInt = (gI z_308 12).toInt by rw [ez_309]; rfl)).trans (show (gI z_308 12).toInt = (gI z_307 12).toInt by rw [ez_308]; rfl)).trans (show (gI z_307 12).toInt = (gI z_306 12).toInt by rw [ez_307]; rfl)).trans (show (gI z_306 12).toInt = (gI z_305 12).toInt by rw [ez_306]; rfl)).trans (show (gI z_305 12).toInt = (gI z1 12).toInt by rw [ez_305]; rfl)).trans (show (gI z1 12).toInt = (gI z 12).toInt by rw [ez1]; rfl)
                          refine ⟨vin (a_add (a_mul (show (4 : Int32).toInt = 4 by decide) rfl (by omega) (by omega)) (show (3 : Int32).toInt = 3 by decide) (by omega) (by omega)) (by omega) (by omega), ?_⟩
                          intro z_312 ez_312
                          have tz_312 : TM z_312 := by rw [ez_312]; exact Ty_wR tz_311 trivial
                          have oz_312 : Same [0, 1, 12] [6, 7, 8, 9, 10, 11, 12] z z_312 := oz_311.r (by decide) ez_312
                          have xz_312 : RM z_312 := by rw [ez_312]; exact xz_311
                          have f_346 : 0 ≤ (gI z_312 12).toInt ∧ (gI z_312 12).toInt ≤ 16 := tz_312.1 12
                          have q_347 := (((((((((show (gI z_312 12).toInt = (gI z_311 12).toInt by rw [ez_312]; rfl)).trans (show (gI z_311 12).toInt = (gI z_310 12).toInt by rw [ez_311]; rfl)).trans (show (gI z_310 12).toInt = (gI z_309 12).toInt by rw [ez_310]; rfl)).trans (show (gI z_309 12).toInt = (gI z_308 12).toInt by rw [ez_309]; rfl)).trans (show (gI z_308 12).toInt = (gI z_307 12).toInt by rw [ez_308]; rfl)).trans (show (gI z_307 12).toInt = (gI z_306 12).toInt by rw [ez_307]; rfl)).trans (show (gI z_306 12).toInt = (gI z_305 12).toInt by rw [ez_306]; rfl)).trans (show (gI z_305 12).toInt = (gI z1 12).toInt by rw [ez_305]; rfl)).trans (show (gI z1 12).toInt = (gI z 12).toInt by rw [ez1]; rfl)
                          refine ⟨vin rfl (by omega) (by omega), ?_⟩
                          intro z_313 ez_313
                          have tz_313 : TM z_313 := by rw [ez_313]; exact Ty_wR tz_312 trivial
                          have oz_313 : Same [0, 1, 12] [6, 7, 8, 9, 10, 11, 12] z z_313 := oz_312.r (by decide) ez_313
                          have xz_313 : RM z_313 := by rw [ez_313]; exact xz_312
                          have f_348 : 0 ≤ (gI z_313 12).toInt ∧ (gI z_313 12).toInt ≤ 16 := tz_313.1 12
                          have q_349 := ((((((((((show (gI z_313 12).toInt = (gI z_312 12).toInt by rw [ez_313]; rfl)).trans (show (gI z_312 12).toInt = (gI z_311 12).toInt by rw [ez_312]; rfl)).trans (show (gI z_311 12).toInt = (gI z_310 12).toInt by rw [ez_311]; rfl)).trans (show (gI z_310 12).toInt = (gI z_309 12).toInt by rw [ez_310]; rfl)).trans (show (gI z_309 12).toInt = (gI z_308 12).toInt by rw [ez_309]; rfl)).trans (show (gI z_308 12).toInt = (gI z_307 12).toInt by rw [ez_308]; rfl)).trans (show (gI z_307 12).toInt = (gI z_306 12).toInt by rw [ez_307]; rfl)).trans (show (gI z_306 12).toInt = (gI z_305 12).toInt by rw [ez_306]; rfl)).trans (show (gI z_305 12).toInt = (gI z1 12).toInt by rw [ez_305]; rfl)).trans (show (gI z1 12).toInt = (gI z 12).toInt by rw [ez1]; rfl)
                          refine ⟨vin rfl (by omega) (by omega), ?_⟩
                          intro z_314 ez_314
                          have tz_314 : TM z_314 := by rw [ez_314]; exact Ty_wR tz_313 trivial
                          have oz_314 : Same [0, 1, 12] [6, 7, 8, 9, 10, 11, 12] z z_314 := oz_313.r (by decide) ez_314
                          have xz_314 : RM z_314 := by rw [ez_314]; exact xz_313
                          intro z_315 ez_315
                          have f_350 : 0 ≤ (gI z_314 12).toInt ∧ (gI z_314 12).toInt ≤ 16 := tz_314.1 12
                          have q_351 := (((((((((((show (gI z_314 12).toInt = (gI z_313 12).toInt by rw [ez_314]; rfl)).trans (show (gI z_313 12).toInt = (gI z_312 12).toInt by rw [ez_313]; rfl)).trans (show (gI z_312 12).toInt = (gI z_311 12).toInt by rw [ez_312]; rfl)).trans (show (gI z_311 12).toInt = (gI z_310 12).toInt by rw [ez_311]; rfl)).trans (show (gI z_310 12).toInt = (gI z_309 12).toInt by rw [ez_310]; rfl)).trans (show (gI z_309 12).toInt = (gI z_308 12).toInt by rw [ez_309]; rfl)).trans (show (gI z_308 12).toInt = (gI z_307 12).toInt by rw [ez_308]; rfl)).trans (show (gI z_307 12).toInt = (gI z_306 12).toInt by rw [ez_307]; rfl)).trans (show (gI z_306 12).toInt = (gI z_305 12).toInt by rw [ez_306]; rfl)).trans (show (gI z_305 12).toInt = (gI z1 12).toInt by rw [ez_305]; rfl)).trans (show (gI z1 12).toInt = (gI z 12).toInt by rw [ez1]; rfl)
                          have tz_315 : TM z_315 := by rw [ez_315]; exact Ty_wI tz_314 (show 0 ≤ ((gI z_314 12) + (1 : Int32)).toInt ∧ ((gI z_314 12) + (1 : Int32)).toInt ≤ 16 from by rw [(a_add rfl (show (1 : Int32).toInt = 1 by decide) (by omega) (by omega))]; omega)
                          have oz_315 : Same [0, 1, 12] [6, 7, 8, 9, 10, 11, 12] z z_315 := oz_314.i (by decide) ez_315
                          have xz_315 : RM z_315 := by rw [ez_315]; exact xz_314
                          have f_352 : 0 ≤ (gI z_315 12).toInt ∧ (gI z_315 12).toInt ≤ 16 := tz_315.1 12
                          have q_353 := (show (gI z_315 12).toInt = ((gI z_314 12) + (1 : Int32)).toInt by rw [ez_315]; rfl)
                          have q_354 : ((gI z_314 12) + (1 : Int32)).toInt = ((gI z_314 12).toInt + (1)) := (a_add rfl (show (1 : Int32).toInt = 1 by decide) (by omega) (by omega))
                          have g_355 : ((gI z_315 12) - (1 : Int32)).toInt = ((gI z_315 12).toInt - (1)) := (a_sub rfl (show (1 : Int32).toInt = 1 by decide) (by omega) (by omega))
                          refine s_X9_told ((gI z_315 12) - ((1 : Int32))) z_315 _ tz_315  (fun r_316 z_317 tz_317 o_357 hp_356 => ?_)
                          have oz_317 : Same [0, 1, 12] [6, 7, 8, 9, 10, 11, 12] z z_317 := oz_315.tr o_357 (by decide) (by decide)
                          have xz_317 : RM z_317 := RM_same xz_315 o_357 (by decide) (by decide)
                          have f_358 : 0 ≤ (gI z_317 12).toInt ∧ (gI z_317 12).toInt ≤ 16 := tz_317.1 12
                          have q_359 := ((o_357.fi 12 (by decide))).trans (show (gI z_315 12).toInt = ((gI z_314 12) + (1 : Int32)).toInt by rw [ez_315]; rfl)
                          have q_360 : ((gI z_314 12) + (1 : Int32)).toInt = ((gI z_314 12).toInt + (1)) := (a_add rfl (show (1 : Int32).toInt = 1 by decide) (by omega) (by omega))
                          exact hk r_316 z_317 tz_317 oz_317 xz_317 (by first | exact Or.inl ⟨(by omega), (by omega), fun g => by unfold GJ at g; omega⟩ | exact Or.inr (Or.inl ⟨(by omega), (by omega), (by omega), (by unfold GJ; exact ⟨by omega, by omega, by omega, by omega, by omega, by omega, fun _ => by omega, fun _ => by omega, fun _ => by omega⟩)⟩) | exact Or.inr (Or.inr (Or.inl ⟨(by omega), (by omega), (by omega), (by omega), (by unfold GJ; exact ⟨by omega, by omega, by omega, by omega, by omega, by omega, fun _ => by omega, fun _ => by omega, fun _ => by omega⟩)⟩)) | exact Or.inr (Or.inr (Or.inr ⟨(by omega), (by omega), (by omega), (by omega), (by unfold GJ; exact ⟨by omega, by omega, by omega, by omega, by omega, by omega, fun _ => by omega, fun _ => by omega, fun _ => by omega⟩)⟩)))
                        · skip
                          have f_361 : 0 ≤ (gI z1 12).toInt ∧ (gI z1 12).toInt ≤ 16 := tz1.1 12
                          have q_362 := (show (gI z1 12).toInt = (gI z 12).toInt by rw [ez1]; rfl)
                          have f_363 : 0 ≤ (gI z 12).toInt ∧ (gI z 12).toInt ≤ 16 := ht.1 12
                          have i_364 := i_eq rfl (show (16 : Int32).toInt = 16 by decide) c_304
                          have g_365 : (-5 : Int32).toInt = -5 := by decide
                          refine s_X9_told ((-5 : Int32)) z1 _ tz1  (fun r_318 z_319 tz_319 o_367 hp_366 => ?_)
                          have oz_319 : Same [0, 1, 12] [6, 7, 8, 9, 10, 11, 12] z z_319 := oz1.tr o_367 (by decide) (by decide)
                          have xz_319 : RM z_319 := RM_same xz1 o_367 (by decide) (by decide)
                          have f_368 : 0 ≤ (gI z_319 12).toInt ∧ (gI z_319 12).toInt ≤ 16 := tz_319.1 12
                          have q_369 := ((o_367.fi 12 (by decide))).trans (show (gI z1 12).toInt = (gI z 12).toInt by rw [ez1]; rfl)
                          exact hk r_318 z_319 tz_319 oz_319 xz_319 (by first | exact Or.inl ⟨(by omega), (by omega), fun g => by unfold GJ at g; omega⟩ | exact Or.inr (Or.inl ⟨(by omega), (by omega), (by omega), (by unfold GJ; exact ⟨by omega, by omega, by omega, by omega, by omega, by omega, fun _ => by omega, fun _ => by omega, fun _ => by omega⟩)⟩) | exact Or.inr (Or.inr (Or.inl ⟨(by omega), (by omega), (by omega), (by omega), (by unfold GJ; exact ⟨by omega, by omega, by omega, by omega, by omega, by omega, fun _ => by omega, fun _ => by omega, fun _ => by omega⟩)⟩)) | exact Or.inr (Or.inr (Or.inr ⟨(by omega), (by omega), (by omega), (by omega), (by unfold GJ; exact ⟨by omega, by omega, by omega, by omega, by omega, by omega, fun _ => by omega, fun _ => by omega, fun _ => by omega⟩)⟩)))
                      · subst er_302
                        have f_370 : 0 ≤ (gI z1 8).toInt ∧ (gI z1 8).toInt ≤ 4 := tz1.1 8
                        have q_371 := (show (gI z1 8).toInt = (gI z 8).toInt by rw [ez1]; rfl)
                        have f_372 : 0 ≤ (gI z 8).toInt ∧ (gI z 8).toInt ≤ 4 := ht.1 8
                        refine ⟨fun hc => absurd hc (by decide), fun _ => ?_⟩
                        have g_373 : (-2 : Int32).toInt = -2 := by decide
                        refine s_X9_told ((-2 : Int32)) z1 _ tz1  (fun r_320 z_321 tz_321 o_375 hp_374 => ?_)
                        have oz_321 : Same [0, 1, 12] [6, 7, 8, 9, 10, 11, 12] z z_321 := oz1.tr o_375 (by decide) (by decide)
                        have xz_321 : RM z_321 := RM_same xz1 o_375 (by decide) (by decide)
                        have f_376 : 0 ≤ (gI z_321 12).toInt ∧ (gI z_321 12).toInt ≤ 16 := tz_321.1 12
                        have q_377 := ((o_375.fi 12 (by decide))).trans (show (gI z1 12).toInt = (gI z 12).toInt by rw [ez1]; rfl)
                        have f_378 : 0 ≤ (gI z 12).toInt ∧ (gI z 12).toInt ≤ 16 := ht.1 12
                        exact hk r_320 z_321 tz_321 oz_321 xz_321 (by first | exact Or.inl ⟨(by omega), (by omega), fun g => by unfold GJ at g; omega⟩ | exact Or.inr (Or.inl ⟨(by omega), (by omega), (by omega), (by unfold GJ; exact ⟨by omega, by omega, by omega, by omega, by omega, by omega, fun _ => by omega, fun _ => by omega, fun _ => by omega⟩)⟩) | exact Or.inr (Or.inr (Or.inl ⟨(by omega), (by omega), (by omega), (by omega), (by unfold GJ; exact ⟨by omega, by omega, by omega, by omega, by omega, by omega, fun _ => by omega, fun _ => by omega, fun _ => by omega⟩)⟩)) | exact Or.inr (Or.inr (Or.inr ⟨(by omega), (by omega), (by omega), (by omega), (by unfold GJ; exact ⟨by omega, by omega, by omega, by omega, by omega, by omega, fun _ => by omega, fun _ => by omega, fun _ => by omega⟩)⟩)))
                    · subst er_214
                      refine ⟨fun _ => ?_, fun hc => absurd (show ((0 : Int32)) = ((0 : Int32)) by decide) hc⟩
                      refine hK_199  ?_
                      refine hK_198 ((0 : Int32)) ?_
                      refine ⟨fun hc => absurd hc (by decide), fun _ => ?_⟩
                      have g_402 : (-1 : Int32).toInt = -1 := by decide
                      refine s_X9_told ((-1 : Int32)) z1 _ tz1  (fun r_400 z_401 tz_401 o_404 hp_403 => ?_)
                      have oz_401 : Same [0, 1, 12] [6, 7, 8, 9, 10, 11, 12] z z_401 := oz1.tr o_404 (by decide) (by decide)
                      have xz_401 : RM z_401 := RM_same xz1 o_404 (by decide) (by decide)
                      have f_405 : 0 ≤ (gI z_401 12).toInt ∧ (gI z_401 12).toInt ≤ 16 := tz_401.1 12
                      have q_406 := ((o_404.fi 12 (by decide))).trans (show (gI z1 12).toInt = (gI z 12).toInt by rw [ez1]; rfl)
                      have f_407 : 0 ≤ (gI z 12).toInt ∧ (gI z 12).toInt ≤ 16 := ht.1 12
                      have f_408 : 0 ≤ (gI z 8).toInt ∧ (gI z 8).toInt ≤ 4 := ht.1 8
                      exact hk r_400 z_401 tz_401 oz_401 xz_401 (by first | exact Or.inl ⟨(by omega), (by omega), fun g => by unfold GJ at g; omega⟩ | exact Or.inr (Or.inl ⟨(by omega), (by omega), (by omega), (by unfold GJ; exact ⟨by omega, by omega, by omega, by omega, by omega, by omega, fun _ => by omega, fun _ => by omega, fun _ => by omega⟩)⟩) | exact Or.inr (Or.inr (Or.inl ⟨(by omega), (by omega), (by omega), (by omega), (by unfold GJ; exact ⟨by omega, by omega, by omega, by omega, by omega, by omega, fun _ => by omega, fun _ => by omega, fun _ => by omega⟩)⟩)) | exact Or.inr (Or.inr (Or.inr ⟨(by omega), (by omega), (by omega), (by omega), (by unfold GJ; exact ⟨by omega, by omega, by omega, by omega, by omega, by omega, fun _ => by omega, fun _ => by omega, fun _ => by omega⟩)⟩)))
                · skip
                  have i_409 := i_nlt rfl (show (3 : Int32).toInt = 3 by decide) c_207
                  have g_410 : (Int32.toInt64 b7).toInt = b7.toInt := (a_wide rfl)
                  have g_411 : (0 : Int64).toInt = 0 := by decide
                  have g_412 : (5000 : Int64).toInt = 5000 := by decide
                  refine s_X9_in (Int32.toInt64 b7) ((0 : Int64)) ((5000 : Int64)) z1 _ tz1  (fun r_208 hp_413 => ?_)
                  rcases hp_413 with ⟨er_208, hp_413⟩ | ⟨er_208, hp_413⟩
                  · subst er_208
                    refine ⟨fun hc => absurd hc (by decide), fun _ => ?_⟩
                    refine hK_210  ?_
                    intro K_414 hK_418
                    refine ⟨fun c_415 => ?_, fun c_415 => ?_⟩
                    · skip
                      have i_419 := i_lt rfl (show (4 : Int32).toInt = 4 by decide) c_415
                      refine hK_418  ?_
                      refine hK_198 ((1 : Int32)) ?_
                      refine ⟨fun _ => ?_, fun hc => absurd hc (by decide)⟩
                      refine s_X9_isHome b1 z1 _ tz1  (fun r_421 hp_443 => ?_)
                      rcases hp_443 with ⟨er_421, hp_443⟩ | ⟨er_421, hp_443⟩
                      · subst er_421
                        have f_444 : 0 ≤ (gI z1 8).toInt ∧ (gI z1 8).toInt ≤ 4 := tz1.1 8
                        have q_445 := (show (gI z1 8).toInt = (gI z 8).toInt by rw [ez1]; rfl)
                        have f_446 : 0 ≤ (gI z 8).toInt ∧ (gI z 8).toInt ≤ 4 := ht.1 8
                        refine ⟨fun _ => ?_, fun hc => absurd hc (by decide)⟩
                        refine ⟨fun c_423 => ?_, fun c_423 => ?_⟩
                        · skip
                          have f_447 : 0 ≤ (gI z1 12).toInt ∧ (gI z1 12).toInt ≤ 16 := tz1.1 12
                          have q_448 := (show (gI z1 12).toInt = (gI z 12).toInt by rw [ez1]; rfl)
                          have f_449 : 0 ≤ (gI z 12).toInt ∧ (gI z 12).toInt ≤ 16 := ht.1 12
                          have i_450 := i_ne rfl (show (16 : Int32).toInt = 16 by decide) c_423
                          refine ⟨vin rfl (by omega) (by omega), ?_⟩
                          intro z_424 ez_424
                          have tz_424 : TM z_424 := by rw [ez_424]; exact Ty_wR tz1 (show 0 ≤ b1.toInt ∧ b1.toInt ≤ 3 from by omega)
                          have oz_424 : Same [0, 1, 12] [6, 7, 8, 9, 10, 11, 12] z z_424 := oz1.r (by decide) ez_424
                          have xz_424 : RM z_424 := by rw [ez_424]; exact xz1
                          have f_451 : 0 ≤ (gI z_424 12).toInt ∧ (gI z_424 12).toInt ≤ 16 := tz_424.1 12
                          have q_452 := ((show (gI z_424 12).toInt = (gI z1 12).toInt by rw [ez_424]; rfl)).trans (show (gI z1 12).toInt = (gI z 12).toInt by rw [ez1]; rfl)
                          refine ⟨vin rfl (by omega) (by omega), ?_⟩
                          intro z_425 ez_425
                          have tz_425 : TM z_425 := by rw [ez_425]; exact Ty_wR tz_424 (show 0 ≤ b2.toInt ∧ b2.toInt ≤ 167 from by omega)
                          have oz_425 : Same [0, 1, 12] [6, 7, 8, 9, 10, 11, 12] z z_425 := oz_424.r (by decide) ez_425
                          have f_453 : 0 ≤ (gI z_425 12).toInt ∧ (gI z_425 12).toInt ≤ 16 := tz_425.1 12
                          have q_454 := (((show (gI z_425 12).toInt = (gI z_424 12).toInt by rw [ez_425]; rfl)).trans (show (gI z_424 12).toInt = (gI z1 12).toInt by rw [ez_424]; rfl)).trans (show (gI z1 12).toInt = (gI z 12).toInt by rw [ez1]; rfl)
                          refine ⟨vin rfl (by omega) (by omega), ?_⟩
                          intro z_426 ez_426
                          have tz_426 : TM z_426 := by rw [ez_426]; exact Ty_wR tz_425 (show 0 ≤ b3.toInt ∧ b3.toInt ≤ 167 from by omega)
                          have oz_426 : Same [0, 1, 12] [6, 7, 8, 9, 10, 11, 12] z z_426 := oz_425.r (by decide) ez_426
                          have xz_426 : RM z_426 := RM_job xz_424 ez_425 ez_426 (by rw [ez_425]; rfl) (by omega)
                          have f_455 : 0 ≤ (gI z_426 12).toInt ∧ (gI z_426 12).toInt ≤ 16 := tz_426.1 12
                          have q_456 := ((((show (gI z_426 12).toInt = (gI z_425 12).toInt by rw [ez_426]; rfl)).trans (show (gI z_425 12).toInt = (gI z_424 12).toInt by rw [ez_425]; rfl)).trans (show (gI z_424 12).toInt = (gI z1 12).toInt by rw [ez_424]; rfl)).trans (show (gI z1 12).toInt = (gI z 12).toInt by rw [ez1]; rfl)
                          refine ⟨vin rfl (by omega) (by omega), ?_⟩
                          intro z_427 ez_427
                          have tz_427 : TM z_427 := by rw [ez_427]; exact Ty_wR tz_426 (show 0 ≤ b4.toInt ∧ b4.toInt ≤ 4 from by omega)
                          have oz_427 : Same [0, 1, 12] [6, 7, 8, 9, 10, 11, 12] z z_427 := oz_426.r (by decide) ez_427
                          have xz_427 : RM z_427 := by rw [ez_427]; exact xz_426
                          have f_457 : 0 ≤ (gI z_427 12).toInt ∧ (gI z_427 12).toInt ≤ 16 := tz_427.1 12
                          have q_458 := (((((show (gI z_427 12).toInt = (gI z_426 12).toInt by rw [ez_427]; rfl)).trans (show (gI z_426 12).toInt = (gI z_425 12).toInt by rw [ez_426]; rfl)).trans (show (gI z_425 12).toInt = (gI z_424 12).toInt by rw [ez_425]; rfl)).trans (show (gI z_424 12).toInt = (gI z1 12).toInt by rw [ez_424]; rfl)).trans (show (gI z1 12).toInt = (gI z 12).toInt by rw [ez1]; rfl)
                          refine ⟨vin (a_mul (show (4 : Int32).toInt = 4 by decide) rfl (by omega) (by omega)) (by omega) (by omega), ?_⟩
                          intro z_428 ez_428
                          have tz_428 : TM z_428 := by rw [ez_428]; exact Ty_wR tz_427 trivial
                          have oz_428 : Same [0, 1, 12] [6, 7, 8, 9, 10, 11, 12] z z_428 := oz_427.r (by decide) ez_428
                          have xz_428 : RM z_428 := by rw [ez_428]; exact xz_427
                          have f_459 : 0 ≤ (gI z_428 12).toInt ∧ (gI z_428 12).toInt ≤ 16 := tz_428.1 12
                          have q_460 := ((((((show (gI z_428 12).toInt = (gI z_427 12).toInt by rw [ez_428]; rfl)).trans (show (gI z_427 12).toInt = (gI z_426 12).toInt by rw [ez_427]; rfl)).trans (show (gI z_426 12).toInt = (gI z_425 12).toInt by rw [ez_426]; rfl)).trans (show (gI z_425 12).toInt = (gI z_424 12).toInt by rw [ez_425]; rfl)).trans (show (gI z_424 12).toInt = (gI z1 12).toInt by rw [ez_424]; rfl)).trans (show (gI z1 12).toInt = (gI z 12).toInt by rw [ez1]; rfl)
                          refine ⟨vin (a_add (a_mul (show (4 : Int32).toInt = 4 by decide) rfl (by omega) (by omega)) (show (1 : Int32).toInt = 1 by decide) (by omega) (by omega)) (by omega) (by omega), ?_⟩
                          intro z_429 ez_429
                          have tz_429 : TM z_429 := by rw [ez_429]; exact Ty_wR tz_428 trivial
                          have oz_429 : Same [0, 1, 12] [6, 7, 8, 9, 10, 11, 12] z z_429 := oz_428.r (by decide) ez_429
                          have xz_429 : RM z_429 := by rw [ez_429]; exact xz_428
                          have f_461 : 0 ≤ (gI z_429 12).toInt ∧ (gI z_429 12).toInt ≤ 16 := tz_429.1 12
                          have q_462 := (((((((show (gI z_429 12).toInt = (gI z_428 12).toInt by rw [ez_429]; rfl)).trans (show (gI z_428 12).toInt = (gI z_427 12).toInt by rw [ez_428]; rfl)).trans (show (gI z_427 12).toInt = (gI z_426 12).toInt by rw [ez_427]; rfl)).trans (show (gI z_426 12).toInt = (gI z_425 12).toInt by rw [ez_426]; rfl)).trans (show (gI z_425 12).toInt = (gI z_424 12).toInt by rw [ez_425]; rfl)).trans (show (gI z_424 12).toInt = (gI z1 12).toInt by rw [ez_424]; rfl)).trans (show (gI z1 12).toInt = (gI z 12).toInt by rw [ez1]; rfl)
                          refine ⟨vin (a_add (a_mul (show (4 : Int32).toInt = 4 by decide) rfl (by omega) (by omega)) (show (2 : Int32).toInt = 2 by decide) (by omega) (by omega)) (by omega) (by omega), ?_⟩
                          intro z_430 ez_430
                          have tz_430 : TM z_430 := by rw [ez_430]; exact Ty_wR tz_429 trivial
                          have oz_430 : Same [0, 1, 12] [6, 7, 8, 9, 10, 11, 12] z z_430 := oz_429.r (by decide) ez_430
                          have xz_430 : RM z_430 := by rw [ez_430]; exact xz_429
                          have f_463 : 0 ≤ (gI z_430 12).toInt ∧ (gI z_430 12).toInt ≤ 16 := tz_430.1 12
                          have q_464 := ((((((((show (gI z_430 12).toInt = (gI z_429 12).toInt by rw [ez_430]; rfl)).trans (show (gI z_429 12).toInt = (gI z_428 12).toInt by rw [ez_429]; rfl)).trans (show (gI z_428 12).toInt = (gI z_427 12).toInt by rw [ez_428]; rfl)).trans (show (gI z_427 12).toInt = (gI z_426 12).toInt by rw [ez_427]; rfl)).trans (show (gI z_426 12).toInt = (gI z_425 12).toInt by rw [ez_426]; rfl)).trans (show (gI z_425 12).toInt = (gI z_424 12).toInt by rw [ez_425]; rfl)).trans (show (gI z_424 12).toInt = (gI z1 12).toInt by rw [ez_424]; rfl)).trans (show (gI z1 12).toInt = (gI z 12).toInt by rw [ez1]; rfl)
                          refine ⟨vin (a_add (a_mul (show (4 : Int32).toInt = 4 by decide) rfl (by omega) (by omega)) (show (3 : Int32).toInt = 3 by decide) (by omega) (by omega)) (by omega) (by omega), ?_⟩
                          intro z_431 ez_431
                          have tz_431 : TM z_431 := by rw [ez_431]; exact Ty_wR tz_430 trivial
                          have oz_431 : Same [0, 1, 12] [6, 7, 8, 9, 10, 11, 12] z z_431 := oz_430.r (by decide) ez_431
                          have xz_431 : RM z_431 := by rw [ez_431]; exact xz_430
                          have f_465 : 0 ≤ (gI z_431 12).toInt ∧ (gI z_431 12).toInt ≤ 16 := tz_431.1 12
                          have q_466 := (((((((((show (gI z_431 12).toInt = (gI z_430 12).toInt by rw [ez_431]; rfl)).trans (show (gI z_430 12).toInt = (gI z_429 12).toInt by rw [ez_430]; rfl)).trans (show (gI z_429 12).toInt = (gI z_428 12).toInt by rw [ez_429]; rfl)).trans (show (gI z_428 12).toInt = (gI z_427 12).toInt by rw [ez_428]; rfl)).trans (show (gI z_427 12).toInt = (gI z_426 12).toInt by rw [ez_427]; rfl)).trans (show (gI z_426 12).toInt = (gI z_425 12).toInt by rw [ez_426]; rfl)).trans (show (gI z_425 12).toInt = (gI z_424 12).toInt by rw [ez_425]; rfl)).trans (show (gI z_424 12).toInt = (gI z1 12).toInt by rw [ez_424]; rfl)).trans (show (gI z1 12).toInt = (gI z 12).toInt by rw [ez1]; rfl)
                          refine ⟨vin rfl (by omega) (by omega), ?_⟩
                          intro z_432 ez_432
                          have tz_432 : TM z_432 := by rw [ez_432]; exact Ty_wR tz_431 trivial
                          have oz_432 : Same [0, 1, 12] [6, 7, 8, 9, 10, 11, 12] z z_432 := oz_431.r (by decide) ez_432
                          have xz_432 : RM z_432 := by rw [ez_432]; exact xz_431
                          have f_467 : 0 ≤ (gI z_432 12).toInt ∧ (gI z_432 12).toInt ≤ 16 := tz_432.1 12
                          have q_468 := ((((((((((show (gI z_432 12).toInt = (gI z_431 12).toInt by rw [ez_432]; rfl)).trans (show (gI z_431 12).toInt = (gI z_430 12).toInt by rw [ez_431]; rfl)).trans (show (gI z_430 12).toInt = (gI z_429 12).toInt by rw [ez_430]; rfl)).trans (show (gI z_429 12).toInt = (gI z_428 12).toInt by rw [ez_429]; rfl)).trans (show (gI z_428 12).toInt = (gI z_427 12).toInt by rw [ez_428]; rfl)).trans (show (gI z_427 12).toInt = (gI z_426 12).toInt by rw [ez_427]; rfl)).trans (show (gI z_426 12).toInt = (gI z_425 12).toInt by rw [ez_426]; rfl)).trans (show (gI z_425 12).toInt = (gI z_424 12).toInt by rw [ez_425]; rfl)).trans (show (gI z_424 12).toInt = (gI z1 12).toInt by rw [ez_424]; rfl)).trans (show (gI z1 12).toInt = (gI z 12).toInt by rw [ez1]; rfl)
                          refine ⟨vin rfl (by omega) (by omega), ?_⟩
                          intro z_433 ez_433
                          have tz_433 : TM z_433 := by rw [ez_433]; exact Ty_wR tz_432 trivial
                          have oz_433 : Same [0, 1, 12] [6, 7, 8, 9, 10, 11, 12] z z_433 := oz_432.r (by decide) ez_433
                          have xz_433 : RM z_433 := by rw [ez_433]; exact xz_432
                          intro z_434 ez_434
                          have f_469 : 0 ≤ (gI z_433 12).toInt ∧ (gI z_433 12).toInt ≤ 16 := tz_433.1 12
                          have q_470 := (((((((((((show (gI z_433 12).toInt = (gI z_432 12).toInt by rw [ez_433]; rfl)).trans (show (gI z_432 12).toInt = (gI z_431 12).toInt by rw [ez_432]; rfl)).trans (show (gI z_431 12).toInt = (gI z_430 12).toInt by rw [ez_431]; rfl)).trans (show (gI z_430 12).toInt = (gI z_429 12).toInt by rw [ez_430]; rfl)).trans (show (gI z_429 12).toInt = (gI z_428 12).toInt by rw [ez_429]; rfl)).trans (show (gI z_428 12).toInt = (gI z_427 12).toInt by rw [ez_428]; rfl)).trans (show (gI z_427 12).toInt = (gI z_426 12).toInt by rw [ez_427]; rfl)).trans (show (gI z_426 12).toInt = (gI z_425 12).toInt by rw [ez_426]; rfl)).trans (show (gI z_425 12).toInt = (gI z_424 12).toInt by rw [ez_425]; rfl)).trans (show (gI z_424 12).toInt = (gI z1 12).toInt by rw [ez_424]; rfl)).trans (show (gI z1 12).toInt = (gI z 12).toInt by rw [ez1]; rfl)
                          have tz_434 : TM z_434 := by rw [ez_434]; exact Ty_wI tz_433 (show 0 ≤ ((gI z_433 12) + (1 : Int32)).toInt ∧ ((gI z_433 12) + (1 : Int32)).toInt ≤ 16 from by rw [(a_add rfl (show (1 : Int32).toInt = 1 by decide) (by omega) (by omega))]; omega)
                          have oz_434 : Same [0, 1, 12] [6, 7, 8, 9, 10, 11, 12] z z_434 := oz_433.i (by decide) ez_434
                          have xz_434 : RM z_434 := by rw [ez_434]; exact xz_433
                          have f_471 : 0 ≤ (gI z_434 12).toInt ∧ (gI z_434 12).toInt ≤ 16 := tz_434.1 12
                          have q_472 := (show (gI z_434 12).toInt = ((gI z_433 12) + (1 : Int32)).toInt by rw [ez_434]; rfl)
                          have q_473 : ((gI z_433 12) + (1 : Int32)).toInt = ((gI z_433 12).toInt + (1)) := (a_add rfl (show (1 : Int32).toInt = 1 by decide) (by omega) (by omega))
                          have g_474 : ((gI z_434 12) - (1 : Int32)).toInt = ((gI z_434 12).toInt - (1)) := (a_sub rfl (show (1 : Int32).toInt = 1 by decide) (by omega) (by omega))
                          refine s_X9_told ((gI z_434 12) - ((1 : Int32))) z_434 _ tz_434  (fun r_435 z_436 tz_436 o_476 hp_475 => ?_)
                          have oz_436 : Same [0, 1, 12] [6, 7, 8, 9, 10, 11, 12] z z_436 := oz_434.tr o_476 (by decide) (by decide)
                          have xz_436 : RM z_436 := RM_same xz_434 o_476 (by decide) (by decide)
                          have f_477 : 0 ≤ (gI z_436 12).toInt ∧ (gI z_436 12).toInt ≤ 16 := tz_436.1 12
                          have q_478 := ((o_476.fi 12 (by decide))).trans (show (gI z_434 12).toInt = ((gI z_433 12) + (1 : Int32)).toInt by rw [ez_434]; rfl)
                          have q_479 : ((gI z_433 12) + (1 : Int32)).toInt = ((gI z_433 12).toInt + (1)) := (a_add rfl (show (1 : Int32).toInt = 1 by decide) (by omega) (by omega))
                          exact hk r_435 z_436 tz_436 oz_436 xz_436 (by first | exact Or.inl ⟨(by omega), (by omega), fun g => by unfold GJ at g; omega⟩ | exact Or.inr (Or.inl ⟨(by omega), (by omega), (by omega), (by unfold GJ; exact ⟨by omega, by omega, by omega, by omega, by omega, by omega, fun _ => by omega, fun _ => by omega, fun _ => by omega⟩)⟩) | exact Or.inr (Or.inr (Or.inl ⟨(by omega), (by omega), (by omega), (by omega), (by unfold GJ; exact ⟨by omega, by omega, by omega, by omega, by omega, by omega, fun _ => by omega, fun _ => by omega, fun _ => by omega⟩)⟩)) | exact Or.inr (Or.inr (Or.inr ⟨(by omega), (by omega), (by omega), (by omega), (by unfold GJ; exact ⟨by omega, by omega, by omega, by omega, by omega, by omega, fun _ => by omega, fun _ => by omega, fun _ => by omega⟩)⟩)))
                        · skip
                          have f_480 : 0 ≤ (gI z1 12).toInt ∧ (gI z1 12).toInt ≤ 16 := tz1.1 12
                          have q_481 := (show (gI z1 12).toInt = (gI z 12).toInt by rw [ez1]; rfl)
                          have f_482 : 0 ≤ (gI z 12).toInt ∧ (gI z 12).toInt ≤ 16 := ht.1 12
                          have i_483 := i_eq rfl (show (16 : Int32).toInt = 16 by decide) c_423
                          have g_484 : (-5 : Int32).toInt = -5 := by decide
                          refine s_X9_told ((-5 : Int32)) z1 _ tz1  (fun r_437 z_438 tz_438 o_486 hp_485 => ?_)
                          have oz_438 : Same [0, 1, 12] [6, 7, 8, 9, 10, 11, 12] z z_438 := oz1.tr o_486 (by decide) (by decide)
                          have xz_438 : RM z_438 := RM_same xz1 o_486 (by decide) (by decide)
                          have f_487 : 0 ≤ (gI z_438 12).toInt ∧ (gI z_438 12).toInt ≤ 16 := tz_438.1 12
                          have q_488 := ((o_486.fi 12 (by decide))).trans (show (gI z1 12).toInt = (gI z 12).toInt by rw [ez1]; rfl)
                          exact hk r_437 z_438 tz_438 oz_438 xz_438 (by first | exact Or.inl ⟨(by omega), (by omega), fun g => by unfold GJ at g; omega⟩ | exact Or.inr (Or.inl ⟨(by omega), (by omega), (by omega), (by unfold GJ; exact ⟨by omega, by omega, by omega, by omega, by omega, by omega, fun _ => by omega, fun _ => by omega, fun _ => by omega⟩)⟩) | exact Or.inr (Or.inr (Or.inl ⟨(by omega), (by omega), (by omega), (by omega), (by unfold GJ; exact ⟨by omega, by omega, by omega, by omega, by omega, by omega, fun _ => by omega, fun _ => by omega, fun _ => by omega⟩)⟩)) | exact Or.inr (Or.inr (Or.inr ⟨(by omega), (by omega), (by omega), (by omega), (by unfold GJ; exact ⟨by omega, by omega, by omega, by omega, by omega, by omega, fun _ => by omega, fun _ => by omega, fun _ => by omega⟩)⟩)))
                      · subst er_421
                        have f_489 : 0 ≤ (gI z1 8).toInt ∧ (gI z1 8).toInt ≤ 4 := tz1.1 8
                        have q_490 := (show (gI z1 8).toInt = (gI z 8).toInt by rw [ez1]; rfl)
                        have f_491 : 0 ≤ (gI z 8).toInt ∧ (gI z 8).toInt ≤ 4 := ht.1 8
                        refine ⟨fun hc => absurd hc (by decide), fun _ => ?_⟩
                        have g_492 : (-2 : Int32).toInt = -2 := by decide
                        refine s_X9_told ((-2 : Int32)) z1 _ tz1  (fun r_439 z_440 tz_440 o_494 hp_493 => ?_)
                        have oz_440 : Same [0, 1, 12] [6, 7, 8, 9, 10, 11, 12] z z_440 := oz1.tr o_494 (by decide) (by decide)
                        have xz_440 : RM z_440 := RM_same xz1 o_494 (by decide) (by decide)
                        have f_495 : 0 ≤ (gI z_440 12).toInt ∧ (gI z_440 12).toInt ≤ 16 := tz_440.1 12
                        have q_496 := ((o_494.fi 12 (by decide))).trans (show (gI z1 12).toInt = (gI z 12).toInt by rw [ez1]; rfl)
                        have f_497 : 0 ≤ (gI z 12).toInt ∧ (gI z 12).toInt ≤ 16 := ht.1 12
                        exact hk r_439 z_440 tz_440 oz_440 xz_440 (by first | exact Or.inl ⟨(by omega), (by omega), fun g => by unfold GJ at g; omega⟩ | exact Or.inr (Or.inl ⟨(by omega), (by omega), (by omega), (by unfold GJ; exact ⟨by omega, by omega, by omega, by omega, by omega, by omega, fun _ => by omega, fun _ => by omega, fun _ => by omega⟩)⟩) | exact Or.inr (Or.inr (Or.inl ⟨(by omega), (by omega), (by omega), (by omega), (by unfold GJ; exact ⟨by omega, by omega, by omega, by omega, by omega, by omega, fun _ => by omega, fun _ => by omega, fun _ => by omega⟩)⟩)) | exact Or.inr (Or.inr (Or.inr ⟨(by omega), (by omega), (by omega), (by omega), (by unfold GJ; exact ⟨by omega, by omega, by omega, by omega, by omega, by omega, fun _ => by omega, fun _ => by omega, fun _ => by omega⟩)⟩)))
                    · skip
                      have i_498 := i_nlt rfl (show (4 : Int32).toInt = 4 by decide) c_415
                      have g_499 : (Int32.toInt64 b8).toInt = b8.toInt := (a_wide rfl)
                      have g_500 : (0 : Int64).toInt = 0 := by decide
                      have g_501 : (5000 : Int64).toInt = 5000 := by decide
                      refine s_X9_in (Int32.toInt64 b8) ((0 : Int64)) ((5000 : Int64)) z1 _ tz1  (fun r_416 hp_502 => ?_)
                      rcases hp_502 with ⟨er_416, hp_502⟩ | ⟨er_416, hp_502⟩
                      · subst er_416
                        refine ⟨fun hc => absurd hc (by decide), fun _ => ?_⟩
                        refine hK_418  ?_
                        refine hK_198 ((1 : Int32)) ?_
                        refine ⟨fun _ => ?_, fun hc => absurd hc (by decide)⟩
                        refine s_X9_isHome b1 z1 _ tz1  (fun r_504 hp_526 => ?_)
                        rcases hp_526 with ⟨er_504, hp_526⟩ | ⟨er_504, hp_526⟩
                        · subst er_504
                          have f_527 : 0 ≤ (gI z1 8).toInt ∧ (gI z1 8).toInt ≤ 4 := tz1.1 8
                          have q_528 := (show (gI z1 8).toInt = (gI z 8).toInt by rw [ez1]; rfl)
                          have f_529 : 0 ≤ (gI z 8).toInt ∧ (gI z 8).toInt ≤ 4 := ht.1 8
                          refine ⟨fun _ => ?_, fun hc => absurd hc (by decide)⟩
                          refine ⟨fun c_506 => ?_, fun c_506 => ?_⟩
                          · skip
                            have f_530 : 0 ≤ (gI z1 12).toInt ∧ (gI z1 12).toInt ≤ 16 := tz1.1 12
                            have q_531 := (show (gI z1 12).toInt = (gI z 12).toInt by rw [ez1]; rfl)
                            have f_532 : 0 ≤ (gI z 12).toInt ∧ (gI z 12).toInt ≤ 16 := ht.1 12
                            have i_533 := i_ne rfl (show (16 : Int32).toInt = 16 by decide) c_506
                            refine ⟨vin rfl (by omega) (by omega), ?_⟩
                            intro z_507 ez_507
                            have tz_507 : TM z_507 := by rw [ez_507]; exact Ty_wR tz1 (show 0 ≤ b1.toInt ∧ b1.toInt ≤ 3 from by omega)
                            have oz_507 : Same [0, 1, 12] [6, 7, 8, 9, 10, 11, 12] z z_507 := oz1.r (by decide) ez_507
                            have xz_507 : RM z_507 := by rw [ez_507]; exact xz1
                            have f_534 : 0 ≤ (gI z_507 12).toInt ∧ (gI z_507 12).toInt ≤ 16 := tz_507.1 12
                            have q_535 := ((show (gI z_507 12).toInt = (gI z1 12).toInt by rw [ez_507]; rfl)).trans (show (gI z1 12).toInt = (gI z 12).toInt by rw [ez1]; rfl)
                            refine ⟨vin rfl (by omega) (by omega), ?_⟩
                            intro z_508 ez_508
                            have tz_508 : TM z_508 := by rw [ez_508]; exact Ty_wR tz_507 (show 0 ≤ b2.toInt ∧ b2.toInt ≤ 167 from by omega)
                            have oz_508 : Same [0, 1, 12] [6, 7, 8, 9, 10, 11, 12] z z_508 := oz_507.r (by decide) ez_508
                            have f_536 : 0 ≤ (gI z_508 12).toInt ∧ (gI z_508 12).toInt ≤ 16 := tz_508.1 12
                            have q_537 := (((show (gI z_508 12).toInt = (gI z_507 12).toInt by rw [ez_508]; rfl)).trans (show (gI z_507 12).toInt = (gI z1 12).toInt by rw [ez_507]; rfl)).trans (show (gI z1 12).toInt = (gI z 12).toInt by rw [ez1]; rfl)
                            refine ⟨vin rfl (by omega) (by omega), ?_⟩
                            intro z_509 ez_509
                            have tz_509 : TM z_509 := by rw [ez_509]; exact Ty_wR tz_508 (show 0 ≤ b3.toInt ∧ b3.toInt ≤ 167 from by omega)
                            have oz_509 : Same [0, 1, 12] [6, 7, 8, 9, 10, 11, 12] z z_509 := oz_508.r (by decide) ez_509
                            have xz_509 : RM z_509 := RM_job xz_507 ez_508 ez_509 (by rw [ez_508]; rfl) (by omega)
                            have f_538 : 0 ≤ (gI z_509 12).toInt ∧ (gI z_509 12).toInt ≤ 16 := tz_509.1 12
                            have q_539 := ((((show (gI z_509 12).toInt = (gI z_508 12).toInt by rw [ez_509]; rfl)).trans (show (gI z_508 12).toInt = (gI z_507 12).toInt by rw [ez_508]; rfl)).trans (show (gI z_507 12).toInt = (gI z1 12).toInt by rw [ez_507]; rfl)).trans (show (gI z1 12).toInt = (gI z 12).toInt by rw [ez1]; rfl)
                            refine ⟨vin rfl (by omega) (by omega), ?_⟩
                            intro z_510 ez_510
                            have tz_510 : TM z_510 := by rw [ez_510]; exact Ty_wR tz_509 (show 0 ≤ b4.toInt ∧ b4.toInt ≤ 4 from by omega)
                            have oz_510 : Same [0, 1, 12] [6, 7, 8, 9, 10, 11, 12] z z_510 := oz_509.r (by decide) ez_510
                            have xz_510 : RM z_510 := by rw [ez_510]; exact xz_509
                            have f_540 : 0 ≤ (gI z_510 12).toInt ∧ (gI z_510 12).toInt ≤ 16 := tz_510.1 12
                            have q_541 := (((((show (gI z_510 12).toInt = (gI z_509 12).toInt by rw [ez_510]; rfl)).trans (show (gI z_509 12).toInt = (gI z_508 12).toInt by rw [ez_509]; rfl)).trans (show (gI z_508 12).toInt = (gI z_507 12).toInt by rw [ez_508]; rfl)).trans (show (gI z_507 12).toInt = (gI z1 12).toInt by rw [ez_507]; rfl)).trans (show (gI z1 12).toInt = (gI z 12).toInt by rw [ez1]; rfl)
                            refine ⟨vin (a_mul (show (4 : Int32).toInt = 4 by decide) rfl (by omega) (by omega)) (by omega) (by omega), ?_⟩
                            intro z_511 ez_511
                            have tz_511 : TM z_511 := by rw [ez_511]; exact Ty_wR tz_510 trivial
                            have oz_511 : Same [0, 1, 12] [6, 7, 8, 9, 10, 11, 12] z z_511 := oz_510.r (by decide) ez_511
                            have xz_511 : RM z_511 := by rw [ez_511]; exact xz_510
                            have f_542 : 0 ≤ (gI z_511 12).toInt ∧ (gI z_511 12).toInt ≤ 16 := tz_511.1 12
                            have q_543 := ((((((show (gI z_511 12).toInt = (gI z_510 12).toInt by rw [ez_511]; rfl)).trans (show (gI z_510 12).toInt = (gI z_509 12).toInt by rw [ez_510]; rfl)).trans (show (gI z_509 12).toInt = (gI z_508 12).toInt by rw [ez_509]; rfl)).trans (show (gI z_508 12).toInt = (gI z_507 12).toInt by rw [ez_508]; rfl)).trans (show (gI z_507 12).toInt = (gI z1 12).toInt by rw [ez_507]; rfl)).trans (show (gI z1 12).toInt = (gI z 12).toInt by rw [ez1]; rfl)
                            refine ⟨vin (a_add (a_mul (show (4 : Int32).toInt = 4 by decide) rfl (by omega) (by omega)) (show (1 : Int32).toInt = 1 by decide) (by omega) (by omega)) (by omega) (by omega), ?_⟩
                            intro z_512 ez_512
                            have tz_512 : TM z_512 := by rw [ez_512]; exact Ty_wR tz_511 trivial
                            have oz_512 : Same [0, 1, 12] [6, 7, 8, 9, 10, 11, 12] z z_512 := oz_511.r (by decide) ez_512
                            have xz_512 : RM z_512 := by rw [ez_512]; exact xz_511
                            have f_544 : 0 ≤ (gI z_512 12).toInt ∧ (gI z_512 12).toInt ≤ 16 := tz_512.1 12
                            have q_545 := (((((((show (gI z_512 12).toInt = (gI z_511 12).toInt by rw [ez_512]; rfl)).trans (show (gI z_511 12).toInt = (gI z_510 12).toInt by rw [ez_511]; rfl)).trans (show (gI z_510 12).toInt = (gI z_509 12).toInt by rw [ez_510]; rfl)).trans (show (gI z_509 12).toInt = (gI z_508 12).toInt by rw [ez_509]; rfl)).trans (show (gI z_508 12).toInt = (gI z_507 12).toInt by rw [ez_508]; rfl)).trans (show (gI z_507 12).toInt = (gI z1 12).toInt by rw [ez_507]; rfl)).trans (show (gI z1 12).toInt = (gI z 12).toInt by rw [ez1]; rfl)
                            refine ⟨vin (a_add (a_mul (show (4 : Int32).toInt = 4 by decide) rfl (by omega) (by omega)) (show (2 : Int32).toInt = 2 by decide) (by omega) (by omega)) (by omega) (by omega), ?_⟩
                            intro z_513 ez_513
                            have tz_513 : TM z_513 := by rw [ez_513]; exact Ty_wR tz_512 trivial
                            have oz_513 : Same [0, 1, 12] [6, 7, 8, 9, 10, 11, 12] z z_513 := oz_512.r (by decide) ez_513
                            have xz_513 : RM z_513 := by rw [ez_513]; exact xz_512
                            have f_546 : 0 ≤ (gI z_513 12).toInt ∧ (gI z_513 12).toInt ≤ 16 := tz_513.1 12
                            have q_547 := ((((((((show (gI z_513 12).toInt = (gI z_512 12).toInt by rw [ez_513]; rfl)).trans (show (gI z_512 12).toInt = (gI z_511 12).toInt by rw [ez_512]; rfl)).trans (show (gI z_511 12).toInt = (gI z_510 12).toInt by rw [ez_511]; rfl)).trans (show (gI z_510 12).toInt = (gI z_509 12).toInt by rw [ez_510]; rfl)).trans (show (gI z_509 12).toInt = (gI z_508 12).toInt by rw [ez_509]; rfl)).trans (show (gI z_508 12).toInt = (gI z_507 12).toInt by rw [ez_508]; rfl)).trans (show (gI z_507 12).toInt = (gI z1 12).toInt by rw [ez_507]; rfl)).trans (show (gI z1 12).toInt = (gI z 12).toInt by rw [ez1]; rfl)
                            refine ⟨vin (a_add (a_mul (show (4 : Int32).toInt = 4 by decide) rfl (by omega) (by omega)) (show (3 : Int32).toInt = 3 by decide) (by omega) (by omega)) (by omega) (by omega), ?_⟩
                            intro z_514 ez_514
                            have tz_514 : TM z_514 := by rw [ez_514]; exact Ty_wR tz_513 trivial
                            have oz_514 : Same [0, 1, 12] [6, 7, 8, 9, 10, 11, 12] z z_514 := oz_513.r (by decide) ez_514
                            have xz_514 : RM z_514 := by rw [ez_514]; exact xz_513
                            have f_548 : 0 ≤ (gI z_514 12).toInt ∧ (gI z_514 12).toInt ≤ 16 := tz_514.1 12
                            have q_549 := (((((((((show (gI z_514 12).toInt = (gI z_513 12).toInt by rw [ez_514]; rfl)).trans (show (gI z_513 12).toInt = (gI z_512 12).toInt by rw [ez_513]; rfl)).trans (show (gI z_512 12).toInt = (gI z_511 12).toInt by rw [ez_512]; rfl)).trans (show (gI z_511 12).toInt = (gI z_510 12).toInt by rw [ez_511]; rfl)).trans (show (gI z_510 12).toInt = (gI z_509 12).toInt by rw [ez_510]; rfl)).trans (show (gI z_509 12).toInt = (gI z_508 12).toInt by rw [ez_509]; rfl)).trans (show (gI z_508 12).toInt = (gI z_507 12).toInt by rw [ez_508]; rfl)).trans (show (gI z_507 12).toInt = (gI z1 12).toInt by rw [ez_507]; rfl)).trans (show (gI z1 12).toInt = (gI z 12).toInt by rw [ez1]; rfl)
                            refine ⟨vin rfl (by omega) (by omega), ?_⟩
                            intro z_515 ez_515
                            have tz_515 : TM z_515 := by rw [ez_515]; exact Ty_wR tz_514 trivial
                            have oz_515 : Same [0, 1, 12] [6, 7, 8, 9, 10, 11, 12] z z_515 := oz_514.r (by decide) ez_515
                            have xz_515 : RM z_515 := by rw [ez_515]; exact xz_514
                            have f_550 : 0 ≤ (gI z_515 12).toInt ∧ (gI z_515 12).toInt ≤ 16 := tz_515.1 12
                            have q_551 := ((((((((((show (gI z_515 12).toInt = (gI z_514 12).toInt by rw [ez_515]; rfl)).trans (show (gI z_514 12).toInt = (gI z_513 12).toInt by rw [ez_514]; rfl)).trans (show (gI z_513 12).toInt = (gI z_512 12).toInt by rw [ez_513]; rfl)).trans (show (gI z_512 12).toInt = (gI z_511 12).toInt by rw [ez_512]; rfl)).trans (show (gI z_511 12).toInt = (gI z_510 12).toInt by rw [ez_511]; rfl)).trans (show (gI z_510 12).toInt = (gI z_509 12).toInt by rw [ez_510]; rfl)).trans (show (gI z_509 12).toInt = (gI z_508 12).toInt by rw [ez_509]; rfl)).trans (show (gI z_508 12).toInt = (gI z_507 12).toInt by rw [ez_508]; rfl)).trans (show (gI z_507 12).toInt = (gI z1 12).toInt by rw [ez_507]; rfl)).trans (show (gI z1 12).toInt = (gI z 12).toInt by rw [ez1]; rfl)
                            refine ⟨vin rfl (by omega) (by omega), ?_⟩
                            intro z_516 ez_516
                            have tz_516 : TM z_516 := by rw [ez_516]; exact Ty_wR tz_515 trivial
                            have oz_516 : Same [0, 1, 12] [6, 7, 8, 9, 10, 11, 12] z z_516 := oz_515.r (by decide) ez_516
                            have xz_516 : RM z_516 := by rw [ez_516]; exact xz_515
                            intro z_517 ez_517
                            have f_552 : 0 ≤ (gI z_516 12).toInt ∧ (gI z_516 12).toInt ≤ 16 := tz_516.1 12
                            have q_553 := (((((((((((show (gI z_516 12).toInt = (gI z_515 12).toInt by rw [ez_516]; rfl)).trans (show (gI z_515 12).toInt = (gI z_514 12).toInt by rw [ez_515]; rfl)).trans (show (gI z_514 12).toInt = (gI z_513 12).toInt by rw [ez_514]; rfl)).trans (show (gI z_513 12).toInt = (gI z_512 12).toInt by rw [ez_513]; rfl)).trans (show (gI z_512 12).toInt = (gI z_511 12).toInt by rw [ez_512]; rfl)).trans (show (gI z_511 12).toInt = (gI z_510 12).toInt by rw [ez_511]; rfl)).trans (show (gI z_510 12).toInt = (gI z_509 12).toInt by rw [ez_510]; rfl)).trans (show (gI z_509 12).toInt = (gI z_508 12).toInt by rw [ez_509]; rfl)).trans (show (gI z_508 12).toInt = (gI z_507 12).toInt by rw [ez_508]; rfl)).trans (show (gI z_507 12).toInt = (gI z1 12).toInt by rw [ez_507]; rfl)).trans (show (gI z1 12).toInt = (gI z 12).toInt by rw [ez1]; rfl)
                            have tz_517 : TM z_517 := by rw [ez_517]; exact Ty_wI tz_516 (show 0 ≤ ((gI z_516 12) + (1 : Int32)).toInt ∧ ((gI z_516 12) + (1 : Int32)).toInt ≤ 16 from by rw [(a_add rfl (show (1 : Int32).toInt = 1 by decide) (by omega) (by omega))]; omega)
                            have oz_517 : Same [0, 1, 12] [6, 7, 8, 9, 10, 11, 12] z z_517 := oz_516.i (by decide) ez_517
                            have xz_517 : RM z_517 := by rw [ez_517]; exact xz_516
                            have f_554 : 0 ≤ (gI z_517 12).toInt ∧ (gI z_517 12).toInt ≤ 16 := tz_517.1 12
                            have q_555 := (show (gI z_517 12).toInt = ((gI z_516 12) + (1 : Int32)).toInt by rw [ez_517]; rfl)
                            have q_556 : ((gI z_516 12) + (1 : Int32)).toInt = ((gI z_516 12).toInt + (1)) := (a_add rfl (show (1 : Int32).toInt = 1 by decide) (by omega) (by omega))
                            have g_557 : ((gI z_517 12) - (1 : Int32)).toInt = ((gI z_517 12).toInt - (1)) := (a_sub rfl (show (1 : Int32).toInt = 1 by decide) (by omega) (by omega))
                            refine s_X9_told ((gI z_517 12) - ((1 : Int32))) z_517 _ tz_517  (fun r_518 z_519 tz_519 o_559 hp_558 => ?_)
                            have oz_519 : Same [0, 1, 12] [6, 7, 8, 9, 10, 11, 12] z z_519 := oz_517.tr o_559 (by decide) (by decide)
                            have xz_519 : RM z_519 := RM_same xz_517 o_559 (by decide) (by decide)
                            have f_560 : 0 ≤ (gI z_519 12).toInt ∧ (gI z_519 12).toInt ≤ 16 := tz_519.1 12
                            have q_561 := ((o_559.fi 12 (by decide))).trans (show (gI z_517 12).toInt = ((gI z_516 12) + (1 : Int32)).toInt by rw [ez_517]; rfl)
                            have q_562 : ((gI z_516 12) + (1 : Int32)).toInt = ((gI z_516 12).toInt + (1)) := (a_add rfl (show (1 : Int32).toInt = 1 by decide) (by omega) (by omega))
                            exact hk r_518 z_519 tz_519 oz_519 xz_519 (by first | exact Or.inl ⟨(by omega), (by omega), fun g => by unfold GJ at g; omega⟩ | exact Or.inr (Or.inl ⟨(by omega), (by omega), (by omega), (by unfold GJ; exact ⟨by omega, by omega, by omega, by omega, by omega, by omega, fun _ => by omega, fun _ => by omega, fun _ => by omega⟩)⟩) | exact Or.inr (Or.inr (Or.inl ⟨(by omega), (by omega), (by omega), (by omega), (by unfold GJ; exact ⟨by omega, by omega, by omega, by omega, by omega, by omega, fun _ => by omega, fun _ => by omega, fun _ => by omega⟩)⟩)) | exact Or.inr (Or.inr (Or.inr ⟨(by omega), (by omega), (by omega), (by omega), (by unfold GJ; exact ⟨by omega, by omega, by omega, by omega, by omega, by omega, fun _ => by omega, fun _ => by omega, fun _ => by omega⟩)⟩)))
                          · skip
                            have f_563 : 0 ≤ (gI z1 12).toInt ∧ (gI z1 12).toInt ≤ 16 := tz1.1 12
                            have q_564 := (show (gI z1 12).toInt = (gI z 12).toInt by rw [ez1]; rfl)
                            have f_565 : 0 ≤ (gI z 12).toInt ∧ (gI z 12).toInt ≤ 16 := ht.1 12
                            have i_566 := i_eq rfl (show (16 : Int32).toInt = 16 by decide) c_506
                            have g_567 : (-5 : Int32).toInt = -5 := by decide
                            refine s_X9_told ((-5 : Int32)) z1 _ tz1  (fun r_520 z_521 tz_521 o_569 hp_568 => ?_)
                            have oz_521 : Same [0, 1, 12] [6, 7, 8, 9, 10, 11, 12] z z_521 := oz1.tr o_569 (by decide) (by decide)
                            have xz_521 : RM z_521 := RM_same xz1 o_569 (by decide) (by decide)
                            have f_570 : 0 ≤ (gI z_521 12).toInt ∧ (gI z_521 12).toInt ≤ 16 := tz_521.1 12
                            have q_571 := ((o_569.fi 12 (by decide))).trans (show (gI z1 12).toInt = (gI z 12).toInt by rw [ez1]; rfl)
                            exact hk r_520 z_521 tz_521 oz_521 xz_521 (by first | exact Or.inl ⟨(by omega), (by omega), fun g => by unfold GJ at g; omega⟩ | exact Or.inr (Or.inl ⟨(by omega), (by omega), (by omega), (by unfold GJ; exact ⟨by omega, by omega, by omega, by omega, by omega, by omega, fun _ => by omega, fun _ => by omega, fun _ => by omega⟩)⟩) | exact Or.inr (Or.inr (Or.inl ⟨(by omega), (by omega), (by omega), (by omega), (by unfold GJ; exact ⟨by omega, by omega, by omega, by omega, by omega, by omega, fun _ => by omega, fun _ => by omega, fun _ => by omega⟩)⟩)) | exact Or.inr (Or.inr (Or.inr ⟨(by omega), (by omega), (by omega), (by omega), (by unfold GJ; exact ⟨by omega, by omega, by omega, by omega, by omega, by omega, fun _ => by omega, fun _ => by omega, fun _ => by omega⟩)⟩)))
                        · subst er_504
                          have f_572 : 0 ≤ (gI z1 8).toInt ∧ (gI z1 8).toInt ≤ 4 := tz1.1 8
                          have q_573 := (show (gI z1 8).toInt = (gI z 8).toInt by rw [ez1]; rfl)
                          have f_574 : 0 ≤ (gI z 8).toInt ∧ (gI z 8).toInt ≤ 4 := ht.1 8
                          refine ⟨fun hc => absurd hc (by decide), fun _ => ?_⟩
                          have g_575 : (-2 : Int32).toInt = -2 := by decide
                          refine s_X9_told ((-2 : Int32)) z1 _ tz1  (fun r_522 z_523 tz_523 o_577 hp_576 => ?_)
                          have oz_523 : Same [0, 1, 12] [6, 7, 8, 9, 10, 11, 12] z z_523 := oz1.tr o_577 (by decide) (by decide)
                          have xz_523 : RM z_523 := RM_same xz1 o_577 (by decide) (by decide)
                          have f_578 : 0 ≤ (gI z_523 12).toInt ∧ (gI z_523 12).toInt ≤ 16 := tz_523.1 12
                          have q_579 := ((o_577.fi 12 (by decide))).trans (show (gI z1 12).toInt = (gI z 12).toInt by rw [ez1]; rfl)
                          have f_580 : 0 ≤ (gI z 12).toInt ∧ (gI z 12).toInt ≤ 16 := ht.1 12
                          exact hk r_522 z_523 tz_523 oz_523 xz_523 (by first | exact Or.inl ⟨(by omega), (by omega), fun g => by unfold GJ at g; omega⟩ | exact Or.inr (Or.inl ⟨(by omega), (by omega), (by omega), (by unfold GJ; exact ⟨by omega, by omega, by omega, by omega, by omega, by omega, fun _ => by omega, fun _ => by omega, fun _ => by omega⟩)⟩) | exact Or.inr (Or.inr (Or.inl ⟨(by omega), (by omega), (by omega), (by omega), (by unfold GJ; exact ⟨by omega, by omega, by omega, by omega, by omega, by omega, fun _ => by omega, fun _ => by omega, fun _ => by omega⟩)⟩)) | exact Or.inr (Or.inr (Or.inr ⟨(by omega), (by omega), (by omega), (by omega), (by unfold GJ; exact ⟨by omega, by omega, by omega, by omega, by omega, by omega, fun _ => by omega, fun _ => by omega, fun _ => by omega⟩)⟩)))
                      · subst er_416
                        refine ⟨fun _ => ?_, fun hc => absurd (show ((0 : Int32)) = ((0 : Int32)) by decide) hc⟩
                        refine hK_199  ?_
                        refine hK_198 ((0 : Int32)) ?_
                        refine ⟨fun hc => absurd hc (by decide), fun _ => ?_⟩
                        have g_604 : (-1 : Int32).toInt = -1 := by decide
                        refine s_X9_told ((-1 : Int32)) z1 _ tz1  (fun r_602 z_603 tz_603 o_606 hp_605 => ?_)
                        have oz_603 : Same [0, 1, 12] [6, 7, 8, 9, 10, 11, 12] z z_603 := oz1.tr o_606 (by decide) (by decide)
                        have xz_603 : RM z_603 := RM_same xz1 o_606 (by decide) (by decide)
                        have f_607 : 0 ≤ (gI z_603 12).toInt ∧ (gI z_603 12).toInt ≤ 16 := tz_603.1 12
                        have q_608 := ((o_606.fi 12 (by decide))).trans (show (gI z1 12).toInt = (gI z 12).toInt by rw [ez1]; rfl)
                        have f_609 : 0 ≤ (gI z 12).toInt ∧ (gI z 12).toInt ≤ 16 := ht.1 12
                        have f_610 : 0 ≤ (gI z 8).toInt ∧ (gI z 8).toInt ≤ 4 := ht.1 8
                        exact hk r_602 z_603 tz_603 oz_603 xz_603 (by first | exact Or.inl ⟨(by omega), (by omega), fun g => by unfold GJ at g; omega⟩ | exact Or.inr (Or.inl ⟨(by omega), (by omega), (by omega), (by unfold GJ; exact ⟨by omega, by omega, by omega, by omega, by omega, by omega, fun _ => by omega, fun _ => by omega, fun _ => by omega⟩)⟩) | exact Or.inr (Or.inr (Or.inl ⟨(by omega), (by omega), (by omega), (by omega), (by unfold GJ; exact ⟨by omega, by omega, by omega, by omega, by omega, by omega, fun _ => by omega, fun _ => by omega, fun _ => by omega⟩)⟩)) | exact Or.inr (Or.inr (Or.inr ⟨(by omega), (by omega), (by omega), (by omega), (by unfold GJ; exact ⟨by omega, by omega, by omega, by omega, by omega, by omega, fun _ => by omega, fun _ => by omega, fun _ => by omega⟩)⟩)))
                  · subst er_208
                    refine ⟨fun _ => ?_, fun hc => absurd (show ((0 : Int32)) = ((0 : Int32)) by decide) hc⟩
                    refine hK_199  ?_
                    refine hK_198 ((0 : Int32)) ?_
                    refine ⟨fun hc => absurd hc (by decide), fun _ => ?_⟩
                    have g_634 : (-1 : Int32).toInt = -1 := by decide
                    refine s_X9_told ((-1 : Int32)) z1 _ tz1  (fun r_632 z_633 tz_633 o_636 hp_635 => ?_)
                    have oz_633 : Same [0, 1, 12] [6, 7, 8, 9, 10, 11, 12] z z_633 := oz1.tr o_636 (by decide) (by decide)
                    have xz_633 : RM z_633 := RM_same xz1 o_636 (by decide) (by decide)
                    have f_637 : 0 ≤ (gI z_633 12).toInt ∧ (gI z_633 12).toInt ≤ 16 := tz_633.1 12
                    have q_638 := ((o_636.fi 12 (by decide))).trans (show (gI z1 12).toInt = (gI z 12).toInt by rw [ez1]; rfl)
                    have f_639 : 0 ≤ (gI z 12).toInt ∧ (gI z 12).toInt ≤ 16 := ht.1 12
                    have f_640 : 0 ≤ (gI z 8).toInt ∧ (gI z 8).toInt ≤ 4 := ht.1 8
                    exact hk r_632 z_633 tz_633 oz_633 xz_633 (by first | exact Or.inl ⟨(by omega), (by omega), fun g => by unfold GJ at g; omega⟩ | exact Or.inr (Or.inl ⟨(by omega), (by omega), (by omega), (by unfold GJ; exact ⟨by omega, by omega, by omega, by omega, by omega, by omega, fun _ => by omega, fun _ => by omega, fun _ => by omega⟩)⟩) | exact Or.inr (Or.inr (Or.inl ⟨(by omega), (by omega), (by omega), (by omega), (by unfold GJ; exact ⟨by omega, by omega, by omega, by omega, by omega, by omega, fun _ => by omega, fun _ => by omega, fun _ => by omega⟩)⟩)) | exact Or.inr (Or.inr (Or.inr ⟨(by omega), (by omega), (by omega), (by omega), (by unfold GJ; exact ⟨by omega, by omega, by omega, by omega, by omega, by omega, fun _ => by omega, fun _ => by omega, fun _ => by omega⟩)⟩)))
              · skip
                have i_641 := i_nlt rfl (show (2 : Int32).toInt = 2 by decide) c_195
                have g_642 : (Int32.toInt64 b6).toInt = b6.toInt := (a_wide rfl)
                have g_643 : (0 : Int64).toInt = 0 := by decide
                have g_644 : (5000 : Int64).toInt = 5000 := by decide
                refine s_X9_in (Int32.toInt64 b6) ((0 : Int64)) ((5000 : Int64)) z1 _ tz1  (fun r_196 hp_645 => ?_)
                rcases hp_645 with ⟨er_196, hp_645⟩ | ⟨er_196, hp_645⟩
                · subst er_196
                  refine ⟨fun hc => absurd hc (by decide), fun _ => ?_⟩
                  refine hK_200  ?_
                  intro K_646 hK_654
                  refine ⟨fun c_651 => ?_, fun c_651 => ?_⟩
                  · skip
                    have i_655 := i_lt rfl (show (3 : Int32).toInt = 3 by decide) c_651
                    refine hK_654  ?_
                    intro K_656 hK_660
                    refine ⟨fun c_657 => ?_, fun c_657 => ?_⟩
                    · skip
                      have i_661 := i_lt rfl (show (4 : Int32).toInt = 4 by decide) c_657
                      refine hK_660  ?_
                      refine hK_198 ((1 : Int32)) ?_
                      refine ⟨fun _ => ?_, fun hc => absurd hc (by decide)⟩
                      refine s_X9_isHome b1 z1 _ tz1  (fun r_663 hp_685 => ?_)
                      rcases hp_685 with ⟨er_663, hp_685⟩ | ⟨er_663, hp_685⟩
                      · subst er_663
                        have f_686 : 0 ≤ (gI z1 8).toInt ∧ (gI z1 8).toInt ≤ 4 := tz1.1 8
                        have q_687 := (show (gI z1 8).toInt = (gI z 8).toInt by rw [ez1]; rfl)
                        have f_688 : 0 ≤ (gI z 8).toInt ∧ (gI z 8).toInt ≤ 4 := ht.1 8
                        refine ⟨fun _ => ?_, fun hc => absurd hc (by decide)⟩
                        refine ⟨fun c_665 => ?_, fun c_665 => ?_⟩
                        · skip
                          have f_689 : 0 ≤ (gI z1 12).toInt ∧ (gI z1 12).toInt ≤ 16 := tz1.1 12
                          have q_690 := (show (gI z1 12).toInt = (gI z 12).toInt by rw [ez1]; rfl)
                          have f_691 : 0 ≤ (gI z 12).toInt ∧ (gI z 12).toInt ≤ 16 := ht.1 12
                          have i_692 := i_ne rfl (show (16 : Int32).toInt = 16 by decide) c_665
                          refine ⟨vin rfl (by omega) (by omega), ?_⟩
                          intro z_666 ez_666
                          have tz_666 : TM z_666 := by rw [ez_666]; exact Ty_wR tz1 (show 0 ≤ b1.toInt ∧ b1.toInt ≤ 3 from by omega)
                          have oz_666 : Same [0, 1, 12] [6, 7, 8, 9, 10, 11, 12] z z_666 := oz1.r (by decide) ez_666
                          have xz_666 : RM z_666 := by rw [ez_666]; exact xz1
                          have f_693 : 0 ≤ (gI z_666 12).toInt ∧ (gI z_666 12).toInt ≤ 16 := tz_666.1 12
                          have q_694 := ((show (gI z_666 12).toInt = (gI z1 12).toInt by rw [ez_666]; rfl)).trans (show (gI z1 12).toInt = (gI z 12).toInt by rw [ez1]; rfl)
                          refine ⟨vin rfl (by omega) (by omega), ?_⟩
                          intro z_667 ez_667
                          have tz_667 : TM z_667 := by rw [ez_667]; exact Ty_wR tz_666 (show 0 ≤ b2.toInt ∧ b2.toInt ≤ 167 from by omega)
                          have oz_667 : Same [0, 1, 12] [6, 7, 8, 9, 10, 11, 12] z z_667 := oz_666.r (by decide) ez_667
                          have f_695 : 0 ≤ (gI z_667 12).toInt ∧ (gI z_667 12).toInt ≤ 16 := tz_667.1 12
                          have q_696 := (((show (gI z_667 12).toInt = (gI z_666 12).toInt by rw [ez_667]; rfl)).trans (show (gI z_666 12).toInt = (gI z1 12).toInt by rw [ez_666]; rfl)).trans (show (gI z1 12).toInt = (gI z 12).toInt by rw [ez1]; rfl)
                          refine ⟨vin rfl (by omega) (by omega), ?_⟩
                          intro z_668 ez_668
                          have tz_668 : TM z_668 := by rw [ez_668]; exact Ty_wR tz_667 (show 0 ≤ b3.toInt ∧ b3.toInt ≤ 167 from by omega)
                          have oz_668 : Same [0, 1, 12] [6, 7, 8, 9, 10, 11, 12] z z_668 := oz_667.r (by decide) ez_668
                          have xz_668 : RM z_668 := RM_job xz_666 ez_667 ez_668 (by rw [ez_667]; rfl) (by omega)
                          have f_697 : 0 ≤ (gI z_668 12).toInt ∧ (gI z_668 12).toInt ≤ 16 := tz_668.1 12
                          have q_698 := ((((show (gI z_668 12).toInt = (gI z_667 12).toInt by rw [ez_668]; rfl)).trans (show (gI z_667 12).toInt = (gI z_666 12).toInt by rw [ez_667]; rfl)).trans (show (gI z_666 12).toInt = (gI z1 12).toInt by rw [ez_666]; rfl)).trans (show (gI z1 12).toInt = (gI z 12).toInt by rw [ez1]; rfl)
                          refine ⟨vin rfl (by omega) (by omega), ?_⟩
                          intro z_669 ez_669
                          have tz_669 : TM z_669 := by rw [ez_669]; exact Ty_wR tz_668 (show 0 ≤ b4.toInt ∧ b4.toInt ≤ 4 from by omega)
                          have oz_669 : Same [0, 1, 12] [6, 7, 8, 9, 10, 11, 12] z z_669 := oz_668.r (by decide) ez_669
                          have xz_669 : RM z_669 := by rw [ez_669]; exact xz_668
                          have f_699 : 0 ≤ (gI z_669 12).toInt ∧ (gI z_669 12).toInt ≤ 16 := tz_669.1 12
                          have q_700 := (((((show (gI z_669 12).toInt = (gI z_668 12).toInt by rw [ez_669]; rfl)).trans (show (gI z_668 12).toInt = (gI z_667 12).toInt by rw [ez_668]; rfl)).trans (show (gI z_667 12).toInt = (gI z_666 12).toInt by rw [ez_667]; rfl)).trans (show (gI z_666 12).toInt = (gI z1 12).toInt by rw [ez_666]; rfl)).trans (show (gI z1 12).toInt = (gI z 12).toInt by rw [ez1]; rfl)
                          refine ⟨vin (a_mul (show (4 : Int32).toInt = 4 by decide) rfl (by omega) (by omega)) (by omega) (by omega), ?_⟩
                          intro z_670 ez_670
                          have tz_670 : TM z_670 := by rw [ez_670]; exact Ty_wR tz_669 trivial
                          have oz_670 : Same [0, 1, 12] [6, 7, 8, 9, 10, 11, 12] z z_670 := oz_669.r (by decide) ez_670
                          have xz_670 : RM z_670 := by rw [ez_670]; exact xz_669
                          have f_701 : 0 ≤ (gI z_670 12).toInt ∧ (gI z_670 12).toInt ≤ 16 := tz_670.1 12
                          have q_702 := ((((((show (gI z_670 12).toInt = (gI z_669 12).toInt by rw [ez_670]; rfl)).trans (show (gI z_669 12).toInt = (gI z_668 12).toInt by rw [ez_669]; rfl)).trans (show (gI z_668 12).toInt = (gI z_667 12).toInt by rw [ez_668]; rfl)).trans (show (gI z_667 12).toInt = (gI z_666 12).toInt by rw [ez_667]; rfl)).trans (show (gI z_666 12).toInt = (gI z1 12).toInt by rw [ez_666]; rfl)).trans (show (gI z1 12).toInt = (gI z 12).toInt by rw [ez1]; rfl)
                          refine ⟨vin (a_add (a_mul (show (4 : Int32).toInt = 4 by decide) rfl (by omega) (by omega)) (show (1 : Int32).toInt = 1 by decide) (by omega) (by omega)) (by omega) (by omega), ?_⟩
                          intro z_671 ez_671
                          have tz_671 : TM z_671 := by rw [ez_671]; exact Ty_wR tz_670 trivial
                          have oz_671 : Same [0, 1, 12] [6, 7, 8, 9, 10, 11, 12] z z_671 := oz_670.r (by decide) ez_671
                          have xz_671 : RM z_671 := by rw [ez_671]; exact xz_670
                          have f_703 : 0 ≤ (gI z_671 12).toInt ∧ (gI z_671 12).toInt ≤ 16 := tz_671.1 12
                          have q_704 := (((((((show (gI z_671 12).toInt = (gI z_670 12).toInt by rw [ez_671]; rfl)).trans (show (gI z_670 12).toInt = (gI z_669 12).toInt by rw [ez_670]; rfl)).trans (show (gI z_669 12).toInt = (gI z_668 12).toInt by rw [ez_669]; rfl)).trans (show (gI z_668 12).toInt = (gI z_667 12).toInt by rw [ez_668]; rfl)).trans (show (gI z_667 12).toInt = (gI z_666 12).toInt by rw [ez_667]; rfl)).trans (show (gI z_666 12).toInt = (gI z1 12).toInt by rw [ez_666]; rfl)).trans (show (gI z1 12).toInt = (gI z 12).toInt by rw [ez1]; rfl)
                          refine ⟨vin (a_add (a_mul (show (4 : Int32).toInt = 4 by decide) rfl (by omega) (by omega)) (show (2 : Int32).toInt = 2 by decide) (by omega) (by omega)) (by omega) (by omega), ?_⟩
                          intro z_672 ez_672
                          have tz_672 : TM z_672 := by rw [ez_672]; exact Ty_wR tz_671 trivial
                          have oz_672 : Same [0, 1, 12] [6, 7, 8, 9, 10, 11, 12] z z_672 := oz_671.r (by decide) ez_672
                          have xz_672 : RM z_672 := by rw [ez_672]; exact xz_671
                          have f_705 : 0 ≤ (gI z_672 12).toInt ∧ (gI z_672 12).toInt ≤ 16 := tz_672.1 12
                          have q_706 := ((((((((show (gI z_672 12).toInt = (gI z_671 12).toInt by rw [ez_672]; rfl)).trans (show (gI z_671 12).toInt = (gI z_670 12).toInt by rw [ez_671]; rfl)).trans (show (gI z_670 12).toInt = (gI z_669 12).toInt by rw [ez_670]; rfl)).trans (show (gI z_669 12).toInt = (gI z_668 12).toInt by rw [ez_669]; rfl)).trans (show (gI z_668 12).toInt = (gI z_667 12).toInt by rw [ez_668]; rfl)).trans (show (gI z_667 12).toInt = (gI z_666 12).toInt by rw [ez_667]; rfl)).trans (show (gI z_666 12).toInt = (gI z1 12).toInt by rw [ez_666]; rfl)).trans (show (gI z1 12).toInt = (gI z 12).toInt by rw [ez1]; rfl)
                          refine ⟨vin (a_add (a_mul (show (4 : Int32).toInt = 4 by decide) rfl (by omega) (by omega)) (show (3 : Int32).toInt = 3 by decide) (by omega) (by omega)) (by omega) (by omega), ?_⟩
                          intro z_673 ez_673
                          have tz_673 : TM z_673 := by rw [ez_673]; exact Ty_wR tz_672 trivial
                          have oz_673 : Same [0, 1, 12] [6, 7, 8, 9, 10, 11, 12] z z_673 := oz_672.r (by decide) ez_673
                          have xz_673 : RM z_673 := by rw [ez_673]; exact xz_672
                          have f_707 : 0 ≤ (gI z_673 12).toInt ∧ (gI z_673 12).toInt ≤ 16 := tz_673.1 12
                          have q_708 := (((((((((show (gI z_673 12).toInt = (gI z_672 12).toInt by rw [ez_673]; rfl)).trans (show (gI z_672 12).toInt = (gI z_671 12).toInt by rw [ez_672]; rfl)).trans (show (gI z_671 12).toInt = (gI z_670 12).toInt by rw [ez_671]; rfl)).trans (show (gI z_670 12).toInt = (gI z_669 12).toInt by rw [ez_670]; rfl)).trans (show (gI z_669 12).toInt = (gI z_668 12).toInt by rw [ez_669]; rfl)).trans (show (gI z_668 12).toInt = (gI z_667 12).toInt by rw [ez_668]; rfl)).trans (show (gI z_667 12).toInt = (gI z_666 12).toInt by rw [ez_667]; rfl)).trans (show (gI z_666 12).toInt = (gI z1 12).toInt by rw [ez_666]; rfl)).trans (show (gI z1 12).toInt = (gI z 12).toInt by rw [ez1]; rfl)
                          refine ⟨vin rfl (by omega) (by omega), ?_⟩
                          intro z_674 ez_674
                          have tz_674 : TM z_674 := by rw [ez_674]; exact Ty_wR tz_673 trivial
                          have oz_674 : Same [0, 1, 12] [6, 7, 8, 9, 10, 11, 12] z z_674 := oz_673.r (by decide) ez_674
                          have xz_674 : RM z_674 := by rw [ez_674]; exact xz_673
                          have f_709 : 0 ≤ (gI z_674 12).toInt ∧ (gI z_674 12).toInt ≤ 16 := tz_674.1 12
                          have q_710 := ((((((((((show (gI z_674 12).toInt = (gI z_673 12).toInt by rw [ez_674]; rfl)).trans (show (gI z_673 12).toInt = (gI z_672 12).toInt by rw [ez_673]; rfl)).trans (show (gI z_672 12).toInt = (gI z_671 12).toInt by rw [ez_672]; rfl)).trans (show (gI z_671 12).toInt = (gI z_670 12).toInt by rw [ez_671]; rfl)).trans (show (gI z_670 12).toInt = (gI z_669 12).toInt by rw [ez_670]; rfl)).trans (show (gI z_669 12).toInt = (gI z_668 12).toInt by rw [ez_669]; rfl)).trans (show (gI z_668 12).toInt = (gI z_667 12).toInt by rw [ez_668]; rfl)).trans (show (gI z_667 12).toInt = (gI z_666 12).toInt by rw [ez_667]; rfl)).trans (show (gI z_666 12).toInt = (gI z1 12).toInt by rw [ez_666]; rfl)).trans (show (gI z1 12).toInt = (gI z 12).toInt by rw [ez1]; rfl)
                          refine ⟨vin rfl (by omega) (by omega), ?_⟩
                          intro z_675 ez_675
                          have tz_675 : TM z_675 := by rw [ez_675]; exact Ty_wR tz_674 trivial
                          have oz_675 : Same [0, 1, 12] [6, 7, 8, 9, 10, 11, 12] z z_675 := oz_674.r (by decide) ez_675
                          have xz_675 : RM z_675 := by rw [ez_675]; exact xz_674
                          intro z_676 ez_676
                          have f_711 : 0 ≤ (gI z_675 12).toInt ∧ (gI z_675 12).toInt ≤ 16 := tz_675.1 12
                          have q_712 := (((((((((((show (gI z_675 12).toInt = (gI z_674 12).toInt by rw [ez_675]; rfl)).trans (show (gI z_674 12).toInt = (gI z_673 12).toInt by rw [ez_674]; rfl)).trans (show (gI z_673 12).toInt = (gI z_672 12).toInt by rw [ez_673]; rfl)).trans (show (gI z_672 12).toInt = (gI z_671 12).toInt by rw [ez_672]; rfl)).trans (show (gI z_671 12).toInt = (gI z_670 12).toInt by rw [ez_671]; rfl)).trans (show (gI z_670 12).toInt = (gI z_669 12).toInt by rw [ez_670]; rfl)).trans (show (gI z_669 12).toInt = (gI z_668 12).toInt by rw [ez_669]; rfl)).trans (show (gI z_668 12).toInt = (gI z_667 12).toInt by rw [ez_668]; rfl)).trans (show (gI z_667 12).toInt = (gI z_666 12).toInt by rw [ez_667]; rfl)).trans (show (gI z_666 12).toInt = (gI z1 12).toInt by rw [ez_666]; rfl)).trans (show (gI z1 12).toInt = (gI z 12).toInt by rw [ez1]; rfl)
                          have tz_676 : TM z_676 := by rw [ez_676]; exact Ty_wI tz_675 (show 0 ≤ ((gI z_675 12) + (1 : Int32)).toInt ∧ ((gI z_675 12) + (1 : Int32)).toInt ≤ 16 from by rw [(a_add rfl (show (1 : Int32).toInt = 1 by decide) (by omega) (by omega))]; omega)
                          have oz_676 : Same [0, 1, 12] [6, 7, 8, 9, 10, 11, 12] z z_676 := oz_675.i (by decide) ez_676
                          have xz_676 : RM z_676 := by rw [ez_676]; exact xz_675
                          have f_713 : 0 ≤ (gI z_676 12).toInt ∧ (gI z_676 12).toInt ≤ 16 := tz_676.1 12
                          have q_714 := (show (gI z_676 12).toInt = ((gI z_675 12) + (1 : Int32)).toInt by rw [ez_676]; rfl)
                          have q_715 : ((gI z_675 12) + (1 : Int32)).toInt = ((gI z_675 12).toInt + (1)) := (a_add rfl (show (1 : Int32).toInt = 1 by decide) (by omega) (by omega))
                          have g_716 : ((gI z_676 12) - (1 : Int32)).toInt = ((gI z_676 12).toInt - (1)) := (a_sub rfl (show (1 : Int32).toInt = 1 by decide) (by omega) (by omega))
                          refine s_X9_told ((gI z_676 12) - ((1 : Int32))) z_676 _ tz_676  (fun r_677 z_678 tz_678 o_718 hp_717 => ?_)
                          have oz_678 : Same [0, 1, 12] [6, 7, 8, 9, 10, 11, 12] z z_678 := oz_676.tr o_718 (by decide) (by decide)
                          have xz_678 : RM z_678 := RM_same xz_676 o_718 (by decide) (by decide)
                          have f_719 : 0 ≤ (gI z_678 12).toInt ∧ (gI z_678 12).toInt ≤ 16 := tz_678.1 12
                          have q_720 := ((o_718.fi 12 (by decide))).trans (show (gI z_676 12).toInt = ((gI z_675 12) + (1 : Int32)).toInt by rw [ez_676]; rfl)
                          have q_721 : ((gI z_675 12) + (1 : Int32)).toInt = ((gI z_675 12).toInt + (1)) := (a_add rfl (show (1 : Int32).toInt = 1 by decide) (by omega) (by omega))
                          exact hk r_677 z_678 tz_678 oz_678 xz_678 (by first | exact Or.inl ⟨(by omega), (by omega), fun g => by unfold GJ at g; omega⟩ | exact Or.inr (Or.inl ⟨(by omega), (by omega), (by omega), (by unfold GJ; exact ⟨by omega, by omega, by omega, by omega, by omega, by omega, fun _ => by omega, fun _ => by omega, fun _ => by omega⟩)⟩) | exact Or.inr (Or.inr (Or.inl ⟨(by omega), (by omega), (by omega), (by omega), (by unfold GJ; exact ⟨by omega, by omega, by omega, by omega, by omega, by omega, fun _ => by omega, fun _ => by omega, fun _ => by omega⟩)⟩)) | exact Or.inr (Or.inr (Or.inr ⟨(by omega), (by omega), (by omega), (by omega), (by unfold GJ; exact ⟨by omega, by omega, by omega, by omega, by omega, by omega, fun _ => by omega, fun _ => by omega, fun _ => by omega⟩)⟩)))
                        · skip
                          have f_722 : 0 ≤ (gI z1 12).toInt ∧ (gI z1 12).toInt ≤ 16 := tz1.1 12
                          have q_723 := (show (gI z1 12).toInt = (gI z 12).toInt by rw [ez1]; rfl)
                          have f_724 : 0 ≤ (gI z 12).toInt ∧ (gI z 12).toInt ≤ 16 := ht.1 12
                          have i_725 := i_eq rfl (show (16 : Int32).toInt = 16 by decide) c_665
                          have g_726 : (-5 : Int32).toInt = -5 := by decide
                          refine s_X9_told ((-5 : Int32)) z1 _ tz1  (fun r_679 z_680 tz_680 o_728 hp_727 => ?_)
                          have oz_680 : Same [0, 1, 12] [6, 7, 8, 9, 10, 11, 12] z z_680 := oz1.tr o_728 (by decide) (by decide)
                          have xz_680 : RM z_680 := RM_same xz1 o_728 (by decide) (by decide)
                          have f_729 : 0 ≤ (gI z_680 12).toInt ∧ (gI z_680 12).toInt ≤ 16 := tz_680.1 12
                          have q_730 := ((o_728.fi 12 (by decide))).trans (show (gI z1 12).toInt = (gI z 12).toInt by rw [ez1]; rfl)
                          exact hk r_679 z_680 tz_680 oz_680 xz_680 (by first | exact Or.inl ⟨(by omega), (by omega), fun g => by unfold GJ at g; omega⟩ | exact Or.inr (Or.inl ⟨(by omega), (by omega), (by omega), (by unfold GJ; exact ⟨by omega, by omega, by omega, by omega, by omega, by omega, fun _ => by omega, fun _ => by omega, fun _ => by omega⟩)⟩) | exact Or.inr (Or.inr (Or.inl ⟨(by omega), (by omega), (by omega), (by omega), (by unfold GJ; exact ⟨by omega, by omega, by omega, by omega, by omega, by omega, fun _ => by omega, fun _ => by omega, fun _ => by omega⟩)⟩)) | exact Or.inr (Or.inr (Or.inr ⟨(by omega), (by omega), (by omega), (by omega), (by unfold GJ; exact ⟨by omega, by omega, by omega, by omega, by omega, by omega, fun _ => by omega, fun _ => by omega, fun _ => by omega⟩)⟩)))
                      · subst er_663
                        have f_731 : 0 ≤ (gI z1 8).toInt ∧ (gI z1 8).toInt ≤ 4 := tz1.1 8
                        have q_732 := (show (gI z1 8).toInt = (gI z 8).toInt by rw [ez1]; rfl)
                        have f_733 : 0 ≤ (gI z 8).toInt ∧ (gI z 8).toInt ≤ 4 := ht.1 8
                        refine ⟨fun hc => absurd hc (by decide), fun _ => ?_⟩
                        have g_734 : (-2 : Int32).toInt = -2 := by decide
                        refine s_X9_told ((-2 : Int32)) z1 _ tz1  (fun r_681 z_682 tz_682 o_736 hp_735 => ?_)
                        have oz_682 : Same [0, 1, 12] [6, 7, 8, 9, 10, 11, 12] z z_682 := oz1.tr o_736 (by decide) (by decide)
                        have xz_682 : RM z_682 := RM_same xz1 o_736 (by decide) (by decide)
                        have f_737 : 0 ≤ (gI z_682 12).toInt ∧ (gI z_682 12).toInt ≤ 16 := tz_682.1 12
                        have q_738 := ((o_736.fi 12 (by decide))).trans (show (gI z1 12).toInt = (gI z 12).toInt by rw [ez1]; rfl)
                        have f_739 : 0 ≤ (gI z 12).toInt ∧ (gI z 12).toInt ≤ 16 := ht.1 12
                        exact hk r_681 z_682 tz_682 oz_682 xz_682 (by first | exact Or.inl ⟨(by omega), (by omega), fun g => by unfold GJ at g; omega⟩ | exact Or.inr (Or.inl ⟨(by omega), (by omega), (by omega), (by unfold GJ; exact ⟨by omega, by omega, by omega, by omega, by omega, by omega, fun _ => by omega, fun _ => by omega, fun _ => by omega⟩)⟩) | exact Or.inr (Or.inr (Or.inl ⟨(by omega), (by omega), (by omega), (by omega), (by unfold GJ; exact ⟨by omega, by omega, by omega, by omega, by omega, by omega, fun _ => by omega, fun _ => by omega, fun _ => by omega⟩)⟩)) | exact Or.inr (Or.inr (Or.inr ⟨(by omega), (by omega), (by omega), (by omega), (by unfold GJ; exact ⟨by omega, by omega, by omega, by omega, by omega, by omega, fun _ => by omega, fun _ => by omega, fun _ => by omega⟩)⟩)))
                    · skip
                      have i_740 := i_nlt rfl (show (4 : Int32).toInt = 4 by decide) c_657
                      have g_741 : (Int32.toInt64 b8).toInt = b8.toInt := (a_wide rfl)
                      have g_742 : (0 : Int64).toInt = 0 := by decide
                      have g_743 : (5000 : Int64).toInt = 5000 := by decide
                      refine s_X9_in (Int32.toInt64 b8) ((0 : Int64)) ((5000 : Int64)) z1 _ tz1  (fun r_658 hp_744 => ?_)
                      rcases hp_744 with ⟨er_658, hp_744⟩ | ⟨er_658, hp_744⟩
                      · subst er_658
                        refine ⟨fun hc => absurd hc (by decide), fun _ => ?_⟩
                        refine hK_660  ?_
                        refine hK_198 ((1 : Int32)) ?_
                        refine ⟨fun _ => ?_, fun hc => absurd hc (by decide)⟩
                        refine s_X9_isHome b1 z1 _ tz1  (fun r_746 hp_768 => ?_)
                        rcases hp_768 with ⟨er_746, hp_768⟩ | ⟨er_746, hp_768⟩
                        · subst er_746
                          have f_769 : 0 ≤ (gI z1 8).toInt ∧ (gI z1 8).toInt ≤ 4 := tz1.1 8
                          have q_770 := (show (gI z1 8).toInt = (gI z 8).toInt by rw [ez1]; rfl)
                          have f_771 : 0 ≤ (gI z 8).toInt ∧ (gI z 8).toInt ≤ 4 := ht.1 8
                          refine ⟨fun _ => ?_, fun hc => absurd hc (by decide)⟩
                          refine ⟨fun c_748 => ?_, fun c_748 => ?_⟩
                          · skip
                            have f_772 : 0 ≤ (gI z1 12).toInt ∧ (gI z1 12).toInt ≤ 16 := tz1.1 12
                            have q_773 := (show (gI z1 12).toInt = (gI z 12).toInt by rw [ez1]; rfl)
                            have f_774 : 0 ≤ (gI z 12).toInt ∧ (gI z 12).toInt ≤ 16 := ht.1 12
                            have i_775 := i_ne rfl (show (16 : Int32).toInt = 16 by decide) c_748
                            refine ⟨vin rfl (by omega) (by omega), ?_⟩
                            intro z_749 ez_749
                            have tz_749 : TM z_749 := by rw [ez_749]; exact Ty_wR tz1 (show 0 ≤ b1.toInt ∧ b1.toInt ≤ 3 from by omega)
                            have oz_749 : Same [0, 1, 12] [6, 7, 8, 9, 10, 11, 12] z z_749 := oz1.r (by decide) ez_749
                            have xz_749 : RM z_749 := by rw [ez_749]; exact xz1
                            have f_776 : 0 ≤ (gI z_749 12).toInt ∧ (gI z_749 12).toInt ≤ 16 := tz_749.1 12
                            have q_777 := ((show (gI z_749 12).toInt = (gI z1 12).toInt by rw [ez_749]; rfl)).trans (show (gI z1 12).toInt = (gI z 12).toInt by rw [ez1]; rfl)
                            refine ⟨vin rfl (by omega) (by omega), ?_⟩
                            intro z_750 ez_750
                            have tz_750 : TM z_750 := by rw [ez_750]; exact Ty_wR tz_749 (show 0 ≤ b2.toInt ∧ b2.toInt ≤ 167 from by omega)
                            have oz_750 : Same [0, 1, 12] [6, 7, 8, 9, 10, 11, 12] z z_750 := oz_749.r (by decide) ez_750
                            have f_778 : 0 ≤ (gI z_750 12).toInt ∧ (gI z_750 12).toInt ≤ 16 := tz_750.1 12
                            have q_779 := (((show (gI z_750 12).toInt = (gI z_749 12).toInt by rw [ez_750]; rfl)).trans (show (gI z_749 12).toInt = (gI z1 12).toInt by rw [ez_749]; rfl)).trans (show (gI z1 12).toInt = (gI z 12).toInt by rw [ez1]; rfl)
                            refine ⟨vin rfl (by omega) (by omega), ?_⟩
                            intro z_751 ez_751
                            have tz_751 : TM z_751 := by rw [ez_751]; exact Ty_wR tz_750 (show 0 ≤ b3.toInt ∧ b3.toInt ≤ 167 from by omega)
                            have oz_751 : Same [0, 1, 12] [6, 7, 8, 9, 10, 11, 12] z z_751 := oz_750.r (by decide) ez_751
                            have xz_751 : RM z_751 := RM_job xz_749 ez_750 ez_751 (by rw [ez_750]; rfl) (by omega)
                            have f_780 : 0 ≤ (gI z_751 12).toInt ∧ (gI z_751 12).toInt ≤ 16 := tz_751.1 12
                            have q_781 := ((((show (gI z_751 12).toInt = (gI z_750 12).toInt by rw [ez_751]; rfl)).trans (show (gI z_750 12).toInt = (gI z_749 12).toInt by rw [ez_750]; rfl)).trans (show (gI z_749 12).toInt = (gI z1 12).toInt by rw [ez_749]; rfl)).trans (show (gI z1 12).toInt = (gI z 12).toInt by rw [ez1]; rfl)
                            refine ⟨vin rfl (by omega) (by omega), ?_⟩
                            intro z_752 ez_752
                            have tz_752 : TM z_752 := by rw [ez_752]; exact Ty_wR tz_751 (show 0 ≤ b4.toInt ∧ b4.toInt ≤ 4 from by omega)
                            have oz_752 : Same [0, 1, 12] [6, 7, 8, 9, 10, 11, 12] z z_752 := oz_751.r (by decide) ez_752
                            have xz_752 : RM z_752 := by rw [ez_752]; exact xz_751
                            have f_782 : 0 ≤ (gI z_752 12).toInt ∧ (gI z_752 12).toInt ≤ 16 := tz_752.1 12
                            have q_783 := (((((show (gI z_752 12).toInt = (gI z_751 12).toInt by rw [ez_752]; rfl)).trans (show (gI z_751 12).toInt = (gI z_750 12).toInt by rw [ez_751]; rfl)).trans (show (gI z_750 12).toInt = (gI z_749 12).toInt by rw [ez_750]; rfl)).trans (show (gI z_749 12).toInt = (gI z1 12).toInt by rw [ez_749]; rfl)).trans (show (gI z1 12).toInt = (gI z 12).toInt by rw [ez1]; rfl)
                            refine ⟨vin (a_mul (show (4 : Int32).toInt = 4 by decide) rfl (by omega) (by omega)) (by omega) (by omega), ?_⟩
                            intro z_753 ez_753
                            have tz_753 : TM z_753 := by rw [ez_753]; exact Ty_wR tz_752 trivial
                            have oz_753 : Same [0, 1, 12] [6, 7, 8, 9, 10, 11, 12] z z_753 := oz_752.r (by decide) ez_753
                            have xz_753 : RM z_753 := by rw [ez_753]; exact xz_752
                            have f_784 : 0 ≤ (gI z_753 12).toInt ∧ (gI z_753 12).toInt ≤ 16 := tz_753.1 12
                            have q_785 := ((((((show (gI z_753 12).toInt = (gI z_752 12).toInt by rw [ez_753]; rfl)).trans (show (gI z_752 12).toInt = (gI z_751 12).toInt by rw [ez_752]; rfl)).trans (show (gI z_751 12).toInt = (gI z_750 12).toInt by rw [ez_751]; rfl)).trans (show (gI z_750 12).toInt = (gI z_749 12).toInt by rw [ez_750]; rfl)).trans (show (gI z_749 12).toInt = (gI z1 12).toInt by rw [ez_749]; rfl)).trans (show (gI z1 12).toInt = (gI z 12).toInt by rw [ez1]; rfl)
                            refine ⟨vin (a_add (a_mul (show (4 : Int32).toInt = 4 by decide) rfl (by omega) (by omega)) (show (1 : Int32).toInt = 1 by decide) (by omega) (by omega)) (by omega) (by omega), ?_⟩
                            intro z_754 ez_754
                            have tz_754 : TM z_754 := by rw [ez_754]; exact Ty_wR tz_753 trivial
                            have oz_754 : Same [0, 1, 12] [6, 7, 8, 9, 10, 11, 12] z z_754 := oz_753.r (by decide) ez_754
                            have xz_754 : RM z_754 := by rw [ez_754]; exact xz_753
                            have f_786 : 0 ≤ (gI z_754 12).toInt ∧ (gI z_754 12).toInt ≤ 16 := tz_754.1 12
                            have q_787 := (((((((show (gI z_754 12).toInt = (gI z_753 12).toInt by rw [ez_754]; rfl)).trans (show (gI z_753 12).toInt = (gI z_752 12).toInt by rw [ez_753]; rfl)).trans (show (gI z_752 12).toInt = (gI z_751 12).toInt by rw [ez_752]; rfl)).trans (show (gI z_751 12).toInt = (gI z_750 12).toInt by rw [ez_751]; rfl)).trans (show (gI z_750 12).toInt = (gI z_749 12).toInt by rw [ez_750]; rfl)).trans (show (gI z_749 12).toInt = (gI z1 12).toInt by rw [ez_749]; rfl)).trans (show (gI z1 12).toInt = (gI z 12).toInt by rw [ez1]; rfl)
                            refine ⟨vin (a_add (a_mul (show (4 : Int32).toInt = 4 by decide) rfl (by omega) (by omega)) (show (2 : Int32).toInt = 2 by decide) (by omega) (by omega)) (by omega) (by omega), ?_⟩
                            intro z_755 ez_755
                            have tz_755 : TM z_755 := by rw [ez_755]; exact Ty_wR tz_754 trivial
                            have oz_755 : Same [0, 1, 12] [6, 7, 8, 9, 10, 11, 12] z z_755 := oz_754.r (by decide) ez_755
                            have xz_755 : RM z_755 := by rw [ez_755]; exact xz_754
                            have f_788 : 0 ≤ (gI z_755 12).toInt ∧ (gI z_755 12).toInt ≤ 16 := tz_755.1 12
                            have q_789 := ((((((((show (gI z_755 12).toInt = (gI z_754 12).toInt by rw [ez_755]; rfl)).trans (show (gI z_754 12).toInt = (gI z_753 12).toInt by rw [ez_754]; rfl)).trans (show (gI z_753 12).toInt = (gI z_752 12).toInt by rw [ez_753]; rfl)).trans (show (gI z_752 12).toInt = (gI z_751 12).toInt by rw [ez_752]; rfl)).trans (show (gI z_751 12).toInt = (gI z_750 12).toInt by rw [ez_751]; rfl)).trans (show (gI z_750 12).toInt = (gI z_749 12).toInt by rw [ez_750]; rfl)).trans (show (gI z_749 12).toInt = (gI z1 12).toInt by rw [ez_749]; rfl)).trans (show (gI z1 12).toInt = (gI z 12).toInt by rw [ez1]; rfl)
                            refine ⟨vin (a_add (a_mul (show (4 : Int32).toInt = 4 by decide) rfl (by omega) (by omega)) (show (3 : Int32).toInt = 3 by decide) (by omega) (by omega)) (by omega) (by omega), ?_⟩
                            intro z_756 ez_756
                            have tz_756 : TM z_756 := by rw [ez_756]; exact Ty_wR tz_755 trivial
                            have oz_756 : Same [0, 1, 12] [6, 7, 8, 9, 10, 11, 12] z z_756 := oz_755.r (by decide) ez_756
                            have xz_756 : RM z_756 := by rw [ez_756]; exact xz_755
                            have f_790 : 0 ≤ (gI z_756 12).toInt ∧ (gI z_756 12).toInt ≤ 16 := tz_756.1 12
                            have q_791 := (((((((((show (gI z_756 12).toInt = (gI z_755 12).toInt by rw [ez_756]; rfl)).trans (show (gI z_755 12).toInt = (gI z_754 12).toInt by rw [ez_755]; rfl)).trans (show (gI z_754 12).toInt = (gI z_753 12).toInt by rw [ez_754]; rfl)).trans (show (gI z_753 12).toInt = (gI z_752 12).toInt by rw [ez_753]; rfl)).trans (show (gI z_752 12).toInt = (gI z_751 12).toInt by rw [ez_752]; rfl)).trans (show (gI z_751 12).toInt = (gI z_750 12).toInt by rw [ez_751]; rfl)).trans (show (gI z_750 12).toInt = (gI z_749 12).toInt by rw [ez_750]; rfl)).trans (show (gI z_749 12).toInt = (gI z1 12).toInt by rw [ez_749]; rfl)).trans (show (gI z1 12).toInt = (gI z 12).toInt by rw [ez1]; rfl)
                            refine ⟨vin rfl (by omega) (by omega), ?_⟩
                            intro z_757 ez_757
                            have tz_757 : TM z_757 := by rw [ez_757]; exact Ty_wR tz_756 trivial
                            have oz_757 : Same [0, 1, 12] [6, 7, 8, 9, 10, 11, 12] z z_757 := oz_756.r (by decide) ez_757
                            have xz_757 : RM z_757 := by rw [ez_757]; exact xz_756
                            have f_792 : 0 ≤ (gI z_757 12).toInt ∧ (gI z_757 12).toInt ≤ 16 := tz_757.1 12
                            have q_793 := ((((((((((show (gI z_757 12).toInt = (gI z_756 12).toInt by rw [ez_757]; rfl)).trans (show (gI z_756 12).toInt = (gI z_755 12).toInt by rw [ez_756]; rfl)).trans (show (gI z_755 12).toInt = (gI z_754 12).toInt by rw [ez_755]; rfl)).trans (show (gI z_754 12).toInt = (gI z_753 12).toInt by rw [ez_754]; rfl)).trans (show (gI z_753 12).toInt = (gI z_752 12).toInt by rw [ez_753]; rfl)).trans (show (gI z_752 12).toInt = (gI z_751 12).toInt by rw [ez_752]; rfl)).trans (show (gI z_751 12).toInt = (gI z_750 12).toInt by rw [ez_751]; rfl)).trans (show (gI z_750 12).toInt = (gI z_749 12).toInt by rw [ez_750]; rfl)).trans (show (gI z_749 12).toInt = (gI z1 12).toInt by rw [ez_749]; rfl)).trans (show (gI z1 12).toInt = (gI z 12).toInt by rw [ez1]; rfl)
                            refine ⟨vin rfl (by omega) (by omega), ?_⟩
                            intro z_758 ez_758
                            have tz_758 : TM z_758 := by rw [ez_758]; exact Ty_wR tz_757 trivial
                            have oz_758 : Same [0, 1, 12] [6, 7, 8, 9, 10, 11, 12] z z_758 := oz_757.r (by decide) ez_758
                            have xz_758 : RM z_758 := by rw [ez_758]; exact xz_757
                            intro z_759 ez_759
                            have f_794 : 0 ≤ (gI z_758 12).toInt ∧ (gI z_758 12).toInt ≤ 16 := tz_758.1 12
                            have q_795 := (((((((((((show (gI z_758 12).toInt = (gI z_757 12).toInt by rw [ez_758]; rfl)).trans (show (gI z_757 12).toInt = (gI z_756 12).toInt by rw [ez_757]; rfl)).trans (show (gI z_756 12).toInt = (gI z_755 12).toInt by rw [ez_756]; rfl)).trans (show (gI z_755 12).toInt = (gI z_754 12).toInt by rw [ez_755]; rfl)).trans (show (gI z_754 12).toInt = (gI z_753 12).toInt by rw [ez_754]; rfl)).trans (show (gI z_753 12).toInt = (gI z_752 12).toInt by rw [ez_753]; rfl)).trans (show (gI z_752 12).toInt = (gI z_751 12).toInt by rw [ez_752]; rfl)).trans (show (gI z_751 12).toInt = (gI z_750 12).toInt by rw [ez_751]; rfl)).trans (show (gI z_750 12).toInt = (gI z_749 12).toInt by rw [ez_750]; rfl)).trans (show (gI z_749 12).toInt = (gI z1 12).toInt by rw [ez_749]; rfl)).trans (show (gI z1 12).toInt = (gI z 12).toInt by rw [ez1]; rfl)
                            have tz_759 : TM z_759 := by rw [ez_759]; exact Ty_wI tz_758 (show 0 ≤ ((gI z_758 12) + (1 : Int32)).toInt ∧ ((gI z_758 12) + (1 : Int32)).toInt ≤ 16 from by rw [(a_add rfl (show (1 : Int32).toInt = 1 by decide) (by omega) (by omega))]; omega)
                            have oz_759 : Same [0, 1, 12] [6, 7, 8, 9, 10, 11, 12] z z_759 := oz_758.i (by decide) ez_759
                            have xz_759 : RM z_759 := by rw [ez_759]; exact xz_758
                            have f_796 : 0 ≤ (gI z_759 12).toInt ∧ (gI z_759 12).toInt ≤ 16 := tz_759.1 12
                            have q_797 := (show (gI z_759 12).toInt = ((gI z_758 12) + (1 : Int32)).toInt by rw [ez_759]; rfl)
                            have q_798 : ((gI z_758 12) + (1 : Int32)).toInt = ((gI z_758 12).toInt + (1)) := (a_add rfl (show (1 : Int32).toInt = 1 by decide) (by omega) (by omega))
                            have g_799 : ((gI z_759 12) - (1 : Int32)).toInt = ((gI z_759 12).toInt - (1)) := (a_sub rfl (show (1 : Int32).toInt = 1 by decide) (by omega) (by omega))
                            refine s_X9_told ((gI z_759 12) - ((1 : Int32))) z_759 _ tz_759  (fun r_760 z_761 tz_761 o_801 hp_800 => ?_)
                            have oz_761 : Same [0, 1, 12] [6, 7, 8, 9, 10, 11, 12] z z_761 := oz_759.tr o_801 (by decide) (by decide)
                            have xz_761 : RM z_761 := RM_same xz_759 o_801 (by decide) (by decide)
                            have f_802 : 0 ≤ (gI z_761 12).toInt ∧ (gI z_761 12).toInt ≤ 16 := tz_761.1 12
                            have q_803 := ((o_801.fi 12 (by decide))).trans (show (gI z_759 12).toInt = ((gI z_758 12) + (1 : Int32)).toInt by rw [ez_759]; rfl)
                            have q_804 : ((gI z_758 12) + (1 : Int32)).toInt = ((gI z_758 12).toInt + (1)) := (a_add rfl (show (1 : Int32).toInt = 1 by decide) (by omega) (by omega))
                            exact hk r_760 z_761 tz_761 oz_761 xz_761 (by first | exact Or.inl ⟨(by omega), (by omega), fun g => by unfold GJ at g; omega⟩ | exact Or.inr (Or.inl ⟨(by omega), (by omega), (by omega), (by unfold GJ; exact ⟨by omega, by omega, by omega, by omega, by omega, by omega, fun _ => by omega, fun _ => by omega, fun _ => by omega⟩)⟩) | exact Or.inr (Or.inr (Or.inl ⟨(by omega), (by omega), (by omega), (by omega), (by unfold GJ; exact ⟨by omega, by omega, by omega, by omega, by omega, by omega, fun _ => by omega, fun _ => by omega, fun _ => by omega⟩)⟩)) | exact Or.inr (Or.inr (Or.inr ⟨(by omega), (by omega), (by omega), (by omega), (by unfold GJ; exact ⟨by omega, by omega, by omega, by omega, by omega, by omega, fun _ => by omega, fun _ => by omega, fun _ => by omega⟩)⟩)))
                          · skip
                            have f_805 : 0 ≤ (gI z1 12).toInt ∧ (gI z1 12).toInt ≤ 16 := tz1.1 12
                            have q_806 := (show (gI z1 12).toInt = (gI z 12).toInt by rw [ez1]; rfl)
                            have f_807 : 0 ≤ (gI z 12).toInt ∧ (gI z 12).toInt ≤ 16 := ht.1 12
                            have i_808 := i_eq rfl (show (16 : Int32).toInt = 16 by decide) c_748
                            have g_809 : (-5 : Int32).toInt = -5 := by decide
                            refine s_X9_told ((-5 : Int32)) z1 _ tz1  (fun r_762 z_763 tz_763 o_811 hp_810 => ?_)
                            have oz_763 : Same [0, 1, 12] [6, 7, 8, 9, 10, 11, 12] z z_763 := oz1.tr o_811 (by decide) (by decide)
                            have xz_763 : RM z_763 := RM_same xz1 o_811 (by decide) (by decide)
                            have f_812 : 0 ≤ (gI z_763 12).toInt ∧ (gI z_763 12).toInt ≤ 16 := tz_763.1 12
                            have q_813 := ((o_811.fi 12 (by decide))).trans (show (gI z1 12).toInt = (gI z 12).toInt by rw [ez1]; rfl)
                            exact hk r_762 z_763 tz_763 oz_763 xz_763 (by first | exact Or.inl ⟨(by omega), (by omega), fun g => by unfold GJ at g; omega⟩ | exact Or.inr (Or.inl ⟨(by omega), (by omega), (by omega), (by unfold GJ; exact ⟨by omega, by omega, by omega, by omega, by omega, by omega, fun _ => by omega, fun _ => by omega, fun _ => by omega⟩)⟩) | exact Or.inr (Or.inr (Or.inl ⟨(by omega), (by omega), (by omega), (by omega), (by unfold GJ; exact ⟨by omega, by omega, by omega, by omega, by omega, by omega, fun _ => by omega, fun _ => by omega, fun _ => by omega⟩)⟩)) | exact Or.inr (Or.inr (Or.inr ⟨(by omega), (by omega), (by omega), (by omega), (by unfold GJ; exact ⟨by omega, by omega, by omega, by omega, by omega, by omega, fun _ => by omega, fun _ => by omega, fun _ => by omega⟩)⟩)))
                        · subst er_746
                          have f_814 : 0 ≤ (gI z1 8).toInt ∧ (gI z1 8).toInt ≤ 4 := tz1.1 8
                          have q_815 := (show (gI z1 8).toInt = (gI z 8).toInt by rw [ez1]; rfl)
                          have f_816 : 0 ≤ (gI z 8).toInt ∧ (gI z 8).toInt ≤ 4 := ht.1 8
                          refine ⟨fun hc => absurd hc (by decide), fun _ => ?_⟩
                          have g_817 : (-2 : Int32).toInt = -2 := by decide
                          refine s_X9_told ((-2 : Int32)) z1 _ tz1  (fun r_764 z_765 tz_765 o_819 hp_818 => ?_)
                          have oz_765 : Same [0, 1, 12] [6, 7, 8, 9, 10, 11, 12] z z_765 := oz1.tr o_819 (by decide) (by decide)
                          have xz_765 : RM z_765 := RM_same xz1 o_819 (by decide) (by decide)
                          have f_820 : 0 ≤ (gI z_765 12).toInt ∧ (gI z_765 12).toInt ≤ 16 := tz_765.1 12
                          have q_821 := ((o_819.fi 12 (by decide))).trans (show (gI z1 12).toInt = (gI z 12).toInt by rw [ez1]; rfl)
                          have f_822 : 0 ≤ (gI z 12).toInt ∧ (gI z 12).toInt ≤ 16 := ht.1 12
                          exact hk r_764 z_765 tz_765 oz_765 xz_765 (by first | exact Or.inl ⟨(by omega), (by omega), fun g => by unfold GJ at g; omega⟩ | exact Or.inr (Or.inl ⟨(by omega), (by omega), (by omega), (by unfold GJ; exact ⟨by omega, by omega, by omega, by omega, by omega, by omega, fun _ => by omega, fun _ => by omega, fun _ => by omega⟩)⟩) | exact Or.inr (Or.inr (Or.inl ⟨(by omega), (by omega), (by omega), (by omega), (by unfold GJ; exact ⟨by omega, by omega, by omega, by omega, by omega, by omega, fun _ => by omega, fun _ => by omega, fun _ => by omega⟩)⟩)) | exact Or.inr (Or.inr (Or.inr ⟨(by omega), (by omega), (by omega), (by omega), (by unfold GJ; exact ⟨by omega, by omega, by omega, by omega, by omega, by omega, fun _ => by omega, fun _ => by omega, fun _ => by omega⟩)⟩)))
                      · subst er_658
                        refine ⟨fun _ => ?_, fun hc => absurd (show ((0 : Int32)) = ((0 : Int32)) by decide) hc⟩
                        refine hK_199  ?_
                        refine hK_198 ((0 : Int32)) ?_
                        refine ⟨fun hc => absurd hc (by decide), fun _ => ?_⟩
                        have g_846 : (-1 : Int32).toInt = -1 := by decide
                        refine s_X9_told ((-1 : Int32)) z1 _ tz1  (fun r_844 z_845 tz_845 o_848 hp_847 => ?_)
                        have oz_845 : Same [0, 1, 12] [6, 7, 8, 9, 10, 11, 12] z z_845 := oz1.tr o_848 (by decide) (by decide)
                        have xz_845 : RM z_845 := RM_same xz1 o_848 (by decide) (by decide)
                        have f_849 : 0 ≤ (gI z_845 12).toInt ∧ (gI z_845 12).toInt ≤ 16 := tz_845.1 12
                        have q_850 := ((o_848.fi 12 (by decide))).trans (show (gI z1 12).toInt = (gI z 12).toInt by rw [ez1]; rfl)
                        have f_851 : 0 ≤ (gI z 12).toInt ∧ (gI z 12).toInt ≤ 16 := ht.1 12
                        have f_852 : 0 ≤ (gI z 8).toInt ∧ (gI z 8).toInt ≤ 4 := ht.1 8
                        exact hk r_844 z_845 tz_845 oz_845 xz_845 (by first | exact Or.inl ⟨(by omega), (by omega), fun g => by unfold GJ at g; omega⟩ | exact Or.inr (Or.inl ⟨(by omega), (by omega), (by omega), (by unfold GJ; exact ⟨by omega, by omega, by omega, by omega, by omega, by omega, fun _ => by omega, fun _ => by omega, fun _ => by omega⟩)⟩) | exact Or.inr (Or.inr (Or.inl ⟨(by omega), (by omega), (by omega), (by omega), (by unfold GJ; exact ⟨by omega, by omega, by omega, by omega, by omega, by omega, fun _ => by omega, fun _ => by omega, fun _ => by omega⟩)⟩)) | exact Or.inr (Or.inr (Or.inr ⟨(by omega), (by omega), (by omega), (by omega), (by unfold GJ; exact ⟨by omega, by omega, by omega, by omega, by omega, by omega, fun _ => by omega, fun _ => by omega, fun _ => by omega⟩)⟩)))
                  · skip
                    have i_853 := i_nlt rfl (show (3 : Int32).toInt = 3 by decide) c_651
                    have g_854 : (Int32.toInt64 b7).toInt = b7.toInt := (a_wide rfl)
                    have g_855 : (0 : Int64).toInt = 0 := by decide
                    have g_856 : (5000 : Int64).toInt = 5000 := by decide
                    refine s_X9_in (Int32.toInt64 b7) ((0 : Int64)) ((5000 : Int64)) z1 _ tz1  (fun r_652 hp_857 => ?_)
                    rcases hp_857 with ⟨er_652, hp_857⟩ | ⟨er_652, hp_857⟩
                    · subst er_652
                      refine ⟨fun hc => absurd hc (by decide), fun _ => ?_⟩
                      refine hK_654  ?_
                      intro K_858 hK_862
                      refine ⟨fun c_859 => ?_, fun c_859 => ?_⟩
                      · skip
                        have i_863 := i_lt rfl (show (4 : Int32).toInt = 4 by decide) c_859
                        refine hK_862  ?_
                        refine hK_198 ((1 : Int32)) ?_
                        refine ⟨fun _ => ?_, fun hc => absurd hc (by decide)⟩
                        refine s_X9_isHome b1 z1 _ tz1  (fun r_865 hp_887 => ?_)
                        rcases hp_887 with ⟨er_865, hp_887⟩ | ⟨er_865, hp_887⟩
                        · subst er_865
                          have f_888 : 0 ≤ (gI z1 8).toInt ∧ (gI z1 8).toInt ≤ 4 := tz1.1 8
                          have q_889 := (show (gI z1 8).toInt = (gI z 8).toInt by rw [ez1]; rfl)
                          have f_890 : 0 ≤ (gI z 8).toInt ∧ (gI z 8).toInt ≤ 4 := ht.1 8
                          refine ⟨fun _ => ?_, fun hc => absurd hc (by decide)⟩
                          refine ⟨fun c_867 => ?_, fun c_867 => ?_⟩
                          · skip
                            have f_891 : 0 ≤ (gI z1 12).toInt ∧ (gI z1 12).toInt ≤ 16 := tz1.1 12
                            have q_892 := (show (gI z1 12).toInt = (gI z 12).toInt by rw [ez1]; rfl)
                            have f_893 : 0 ≤ (gI z 12).toInt ∧ (gI z 12).toInt ≤ 16 := ht.1 12
                            have i_894 := i_ne rfl (show (16 : Int32).toInt = 16 by decide) c_867
                            refine ⟨vin rfl (by omega) (by omega), ?_⟩
                            intro z_868 ez_868
                            have tz_868 : TM z_868 := by rw [ez_868]; exact Ty_wR tz1 (show 0 ≤ b1.toInt ∧ b1.toInt ≤ 3 from by omega)
                            have oz_868 : Same [0, 1, 12] [6, 7, 8, 9, 10, 11, 12] z z_868 := oz1.r (by decide) ez_868
                            have xz_868 : RM z_868 := by rw [ez_868]; exact xz1
                            have f_895 : 0 ≤ (gI z_868 12).toInt ∧ (gI z_868 12).toInt ≤ 16 := tz_868.1 12
                            have q_896 := ((show (gI z_868 12).toInt = (gI z1 12).toInt by rw [ez_868]; rfl)).trans (show (gI z1 12).toInt = (gI z 12).toInt by rw [ez1]; rfl)
                            refine ⟨vin rfl (by omega) (by omega), ?_⟩
                            intro z_869 ez_869
                            have tz_869 : TM z_869 := by rw [ez_869]; exact Ty_wR tz_868 (show 0 ≤ b2.toInt ∧ b2.toInt ≤ 167 from by omega)
                            have oz_869 : Same [0, 1, 12] [6, 7, 8, 9, 10, 11, 12] z z_869 := oz_868.r (by decide) ez_869
                            have f_897 : 0 ≤ (gI z_869 12).toInt ∧ (gI z_869 12).toInt ≤ 16 := tz_869.1 12
                            have q_898 := (((show (gI z_869 12).toInt = (gI z_868 12).toInt by rw [ez_869]; rfl)).trans (show (gI z_868 12).toInt = (gI z1 12).toInt by rw [ez_868]; rfl)).trans (show (gI z1 12).toInt = (gI z 12).toInt by rw [ez1]; rfl)
                            refine ⟨vin rfl (by omega) (by omega), ?_⟩
                            intro z_870 ez_870
                            have tz_870 : TM z_870 := by rw [ez_870]; exact Ty_wR tz_869 (show 0 ≤ b3.toInt ∧ b3.toInt ≤ 167 from by omega)
                            have oz_870 : Same [0, 1, 12] [6, 7, 8, 9, 10, 11, 12] z z_870 := oz_869.r (by decide) ez_870
                            have xz_870 : RM z_870 := RM_job xz_868 ez_869 ez_870 (by rw [ez_869]; rfl) (by omega)
                            have f_899 : 0 ≤ (gI z_870 12).toInt ∧ (gI z_870 12).toInt ≤ 16 := tz_870.1 12
                            have q_900 := ((((show (gI z_870 12).toInt = (gI z_869 12).toInt by rw [ez_870]; rfl)).trans (show (gI z_869 12).toInt = (gI z_868 12).toInt by rw [ez_869]; rfl)).trans (show (gI z_868 12).toInt = (gI z1 12).toInt by rw [ez_868]; rfl)).trans (show (gI z1 12).toInt = (gI z 12).toInt by rw [ez1]; rfl)
                            refine ⟨vin rfl (by omega) (by omega), ?_⟩
                            intro z_871 ez_871
                            have tz_871 : TM z_871 := by rw [ez_871]; exact Ty_wR tz_870 (show 0 ≤ b4.toInt ∧ b4.toInt ≤ 4 from by omega)
                            have oz_871 : Same [0, 1, 12] [6, 7, 8, 9, 10, 11, 12] z z_871 := oz_870.r (by decide) ez_871
                            have xz_871 : RM z_871 := by rw [ez_871]; exact xz_870
                            have f_901 : 0 ≤ (gI z_871 12).toInt ∧ (gI z_871 12).toInt ≤ 16 := tz_871.1 12
                            have q_902 := (((((show (gI z_871 12).toInt = (gI z_870 12).toInt by rw [ez_871]; rfl)).trans (show (gI z_870 12).toInt = (gI z_869 12).toInt by rw [ez_870]; rfl)).trans (show (gI z_869 12).toInt = (gI z_868 12).toInt by rw [ez_869]; rfl)).trans (show (gI z_868 12).toInt = (gI z1 12).toInt by rw [ez_868]; rfl)).trans (show (gI z1 12).toInt = (gI z 12).toInt by rw [ez1]; rfl)
                            refine ⟨vin (a_mul (show (4 : Int32).toInt = 4 by decide) rfl (by omega) (by omega)) (by omega) (by omega), ?_⟩
                            intro z_872 ez_872
                            have tz_872 : TM z_872 := by rw [ez_872]; exact Ty_wR tz_871 trivial
                            have oz_872 : Same [0, 1, 12] [6, 7, 8, 9, 10, 11, 12] z z_872 := oz_871.r (by decide) ez_872
                            have xz_872 : RM z_872 := by rw [ez_872]; exact xz_871
                            have f_903 : 0 ≤ (gI z_872 12).toInt ∧ (gI z_872 12).toInt ≤ 16 := tz_872.1 12
                            have q_904 := ((((((show (gI z_872 12).toInt = (gI z_871 12).toInt by rw [ez_872]; rfl)).trans (show (gI z_871 12).toInt = (gI z_870 12).toInt by rw [ez_871]; rfl)).trans (show (gI z_870 12).toInt = (gI z_869 12).toInt by rw [ez_870]; rfl)).trans (show (gI z_869 12).toInt = (gI z_868 12).toInt by rw [ez_869]; rfl)).trans (show (gI z_868 12).toInt = (gI z1 12).toInt by rw [ez_868]; rfl)).trans (show (gI z1 12).toInt = (gI z 12).toInt by rw [ez1]; rfl)
                            refine ⟨vin (a_add (a_mul (show (4 : Int32).toInt = 4 by decide) rfl (by omega) (by omega)) (show (1 : Int32).toInt = 1 by decide) (by omega) (by omega)) (by omega) (by omega), ?_⟩
                            intro z_873 ez_873
                            have tz_873 : TM z_873 := by rw [ez_873]; exact Ty_wR tz_872 trivial
                            have oz_873 : Same [0, 1, 12] [6, 7, 8, 9, 10, 11, 12] z z_873 := oz_872.r (by decide) ez_873
                            have xz_873 : RM z_873 := by rw [ez_873]; exact xz_872
                            have f_905 : 0 ≤ (gI z_873 12).toInt ∧ (gI z_873 12).toInt ≤ 16 := tz_873.1 12
                            have q_906 := (((((((show (gI z_873 12).toInt = (gI z_872 12).toInt by rw [ez_873]; rfl)).trans (show (gI z_872 12).toInt = (gI z_871 12).toInt by rw [ez_872]; rfl)).trans (show (gI z_871 12).toInt = (gI z_870 12).toInt by rw [ez_871]; rfl)).trans (show (gI z_870 12).toInt = (gI z_869 12).toInt by rw [ez_870]; rfl)).trans (show (gI z_869 12).toInt = (gI z_868 12).toInt by rw [ez_869]; rfl)).trans (show (gI z_868 12).toInt = (gI z1 12).toInt by rw [ez_868]; rfl)).trans (show (gI z1 12).toInt = (gI z 12).toInt by rw [ez1]; rfl)
                            refine ⟨vin (a_add (a_mul (show (4 : Int32).toInt = 4 by decide) rfl (by omega) (by omega)) (show (2 : Int32).toInt = 2 by decide) (by omega) (by omega)) (by omega) (by omega), ?_⟩
                            intro z_874 ez_874
                            have tz_874 : TM z_874 := by rw [ez_874]; exact Ty_wR tz_873 trivial
                            have oz_874 : Same [0, 1, 12] [6, 7, 8, 9, 10, 11, 12] z z_874 := oz_873.r (by decide) ez_874
                            have xz_874 : RM z_874 := by rw [ez_874]; exact xz_873
                            have f_907 : 0 ≤ (gI z_874 12).toInt ∧ (gI z_874 12).toInt ≤ 16 := tz_874.1 12
                            have q_908 := ((((((((show (gI z_874 12).toInt = (gI z_873 12).toInt by rw [ez_874]; rfl)).trans (show (gI z_873 12).toInt = (gI z_872 12).toInt by rw [ez_873]; rfl)).trans (show (gI z_872 12).toInt = (gI z_871 12).toInt by rw [ez_872]; rfl)).trans (show (gI z_871 12).toInt = (gI z_870 12).toInt by rw [ez_871]; rfl)).trans (show (gI z_870 12).toInt = (gI z_869 12).toInt by rw [ez_870]; rfl)).trans (show (gI z_869 12).toInt = (gI z_868 12).toInt by rw [ez_869]; rfl)).trans (show (gI z_868 12).toInt = (gI z1 12).toInt by rw [ez_868]; rfl)).trans (show (gI z1 12).toInt = (gI z 12).toInt by rw [ez1]; rfl)
                            refine ⟨vin (a_add (a_mul (show (4 : Int32).toInt = 4 by decide) rfl (by omega) (by omega)) (show (3 : Int32).toInt = 3 by decide) (by omega) (by omega)) (by omega) (by omega), ?_⟩
                            intro z_875 ez_875
                            have tz_875 : TM z_875 := by rw [ez_875]; exact Ty_wR tz_874 trivial
                            have oz_875 : Same [0, 1, 12] [6, 7, 8, 9, 10, 11, 12] z z_875 := oz_874.r (by decide) ez_875
                            have xz_875 : RM z_875 := by rw [ez_875]; exact xz_874
                            have f_909 : 0 ≤ (gI z_875 12).toInt ∧ (gI z_875 12).toInt ≤ 16 := tz_875.1 12
                            have q_910 := (((((((((show (gI z_875 12).toInt = (gI z_874 12).toInt by rw [ez_875]; rfl)).trans (show (gI z_874 12).toInt = (gI z_873 12).toInt by rw [ez_874]; rfl)).trans (show (gI z_873 12).toInt = (gI z_872 12).toInt by rw [ez_873]; rfl)).trans (show (gI z_872 12).toInt = (gI z_871 12).toInt by rw [ez_872]; rfl)).trans (show (gI z_871 12).toInt = (gI z_870 12).toInt by rw [ez_871]; rfl)).trans (show (gI z_870 12).toInt = (gI z_869 12).toInt by rw [ez_870]; rfl)).trans (show (gI z_869 12).toInt = (gI z_868 12).toInt by rw [ez_869]; rfl)).trans (show (gI z_868 12).toInt = (gI z1 12).toInt by rw [ez_868]; rfl)).trans (show (gI z1 12).toInt = (gI z 12).toInt by rw [ez1]; rfl)
                            refine ⟨vin rfl (by omega) (by omega), ?_⟩
                            intro z_876 ez_876
                            have tz_876 : TM z_876 := by rw [ez_876]; exact Ty_wR tz_875 trivial
                            have oz_876 : Same [0, 1, 12] [6, 7, 8, 9, 10, 11, 12] z z_876 := oz_875.r (by decide) ez_876
                            have xz_876 : RM z_876 := by rw [ez_876]; exact xz_875
                            have f_911 : 0 ≤ (gI z_876 12).toInt ∧ (gI z_876 12).toInt ≤ 16 := tz_876.1 12
                            have q_912 := ((((((((((show (gI z_876 12).toInt = (gI z_875 12).toInt by rw [ez_876]; rfl)).trans (show (gI z_875 12).toInt = (gI z_874 12).toInt by rw [ez_875]; rfl)).trans (show (gI z_874 12).toInt = (gI z_873 12).toInt by rw [ez_874]; rfl)).trans (show (gI z_873 12).toInt = (gI z_872 12).toInt by rw [ez_873]; rfl)).trans (show (gI z_872 12).toInt = (gI z_871 12).toInt by rw [ez_872]; rfl)).trans (show (gI z_871 12).toInt = (gI z_870 12).toInt by rw [ez_871]; rfl)).trans (show (gI z_870 12).toInt = (gI z_869 12).toInt by rw [ez_870]; rfl)).trans (show (gI z_869 12).toInt = (gI z_868 12).toInt by rw [ez_869]; rfl)).trans (show (gI z_868 12).toInt = (gI z1 12).toInt by rw [ez_868]; rfl)).trans (show (gI z1 12).toInt = (gI z 12).toInt by rw [ez1]; rfl)
                            refine ⟨vin rfl (by omega) (by omega), ?_⟩
                            intro z_877 ez_877
                            have tz_877 : TM z_877 := by rw [ez_877]; exact Ty_wR tz_876 trivial
                            have oz_877 : Same [0, 1, 12] [6, 7, 8, 9, 10, 11, 12] z z_877 := oz_876.r (by decide) ez_877
                            have xz_877 : RM z_877 := by rw [ez_877]; exact xz_876
                            intro z_878 ez_878
                            have f_913 : 0 ≤ (gI z_877 12).toInt ∧ (gI z_877 12).toInt ≤ 16 := tz_877.1 12
                            have q_914 := (((((((((((show (gI z_877 12).toInt = (gI z_876 12).toInt by rw [ez_877]; rfl)).trans (show (gI z_876 12).toInt = (gI z_875 12).toInt by rw [ez_876]; rfl)).trans (show (gI z_875 12).toInt = (gI z_874 12).toInt by rw [ez_875]; rfl)).trans (show (gI z_874 12).toInt = (gI z_873 12).toInt by rw [ez_874]; rfl)).trans (show (gI z_873 12).toInt = (gI z_872 12).toInt by rw [ez_873]; rfl)).trans (show (gI z_872 12).toInt = (gI z_871 12).toInt by rw [ez_872]; rfl)).trans (show (gI z_871 12).toInt = (gI z_870 12).toInt by rw [ez_871]; rfl)).trans (show (gI z_870 12).toInt = (gI z_869 12).toInt by rw [ez_870]; rfl)).trans (show (gI z_869 12).toInt = (gI z_868 12).toInt by rw [ez_869]; rfl)).trans (show (gI z_868 12).toInt = (gI z1 12).toInt by rw [ez_868]; rfl)).trans (show (gI z1 12).toInt = (gI z 12).toInt by rw [ez1]; rfl)
                            have tz_878 : TM z_878 := by rw [ez_878]; exact Ty_wI tz_877 (show 0 ≤ ((gI z_877 12) + (1 : Int32)).toInt ∧ ((gI z_877 12) + (1 : Int32)).toInt ≤ 16 from by rw [(a_add rfl (show (1 : Int32).toInt = 1 by decide) (by omega) (by omega))]; omega)
                            have oz_878 : Same [0, 1, 12] [6, 7, 8, 9, 10, 11, 12] z z_878 := oz_877.i (by decide) ez_878
                            have xz_878 : RM z_878 := by rw [ez_878]; exact xz_877
                            have f_915 : 0 ≤ (gI z_878 12).toInt ∧ (gI z_878 12).toInt ≤ 16 := tz_878.1 12
                            have q_916 := (show (gI z_878 12).toInt = ((gI z_877 12) + (1 : Int32)).toInt by rw [ez_878]; rfl)
                            have q_917 : ((gI z_877 12) + (1 : Int32)).toInt = ((gI z_877 12).toInt + (1)) := (a_add rfl (show (1 : Int32).toInt = 1 by decide) (by omega) (by omega))
                            have g_918 : ((gI z_878 12) - (1 : Int32)).toInt = ((gI z_878 12).toInt - (1)) := (a_sub rfl (show (1 : Int32).toInt = 1 by decide) (by omega) (by omega))
                            refine s_X9_told ((gI z_878 12) - ((1 : Int32))) z_878 _ tz_878  (fun r_879 z_880 tz_880 o_920 hp_919 => ?_)
                            have oz_880 : Same [0, 1, 12] [6, 7, 8, 9, 10, 11, 12] z z_880 := oz_878.tr o_920 (by decide) (by decide)
                            have xz_880 : RM z_880 := RM_same xz_878 o_920 (by decide) (by decide)
                            have f_921 : 0 ≤ (gI z_880 12).toInt ∧ (gI z_880 12).toInt ≤ 16 := tz_880.1 12
                            have q_922 := ((o_920.fi 12 (by decide))).trans (show (gI z_878 12).toInt = ((gI z_877 12) + (1 : Int32)).toInt by rw [ez_878]; rfl)
                            have q_923 : ((gI z_877 12) + (1 : Int32)).toInt = ((gI z_877 12).toInt + (1)) := (a_add rfl (show (1 : Int32).toInt = 1 by decide) (by omega) (by omega))
                            exact hk r_879 z_880 tz_880 oz_880 xz_880 (by first | exact Or.inl ⟨(by omega), (by omega), fun g => by unfold GJ at g; omega⟩ | exact Or.inr (Or.inl ⟨(by omega), (by omega), (by omega), (by unfold GJ; exact ⟨by omega, by omega, by omega, by omega, by omega, by omega, fun _ => by omega, fun _ => by omega, fun _ => by omega⟩)⟩) | exact Or.inr (Or.inr (Or.inl ⟨(by omega), (by omega), (by omega), (by omega), (by unfold GJ; exact ⟨by omega, by omega, by omega, by omega, by omega, by omega, fun _ => by omega, fun _ => by omega, fun _ => by omega⟩)⟩)) | exact Or.inr (Or.inr (Or.inr ⟨(by omega), (by omega), (by omega), (by omega), (by unfold GJ; exact ⟨by omega, by omega, by omega, by omega, by omega, by omega, fun _ => by omega, fun _ => by omega, fun _ => by omega⟩)⟩)))
                          · skip
                            have f_924 : 0 ≤ (gI z1 12).toInt ∧ (gI z1 12).toInt ≤ 16 := tz1.1 12
                            have q_925 := (show (gI z1 12).toInt = (gI z 12).toInt by rw [ez1]; rfl)
                            have f_926 : 0 ≤ (gI z 12).toInt ∧ (gI z 12).toInt ≤ 16 := ht.1 12
                            have i_927 := i_eq rfl (show (16 : Int32).toInt = 16 by decide) c_867
                            have g_928 : (-5 : Int32).toInt = -5 := by decide
                            refine s_X9_told ((-5 : Int32)) z1 _ tz1  (fun r_881 z_882 tz_882 o_930 hp_929 => ?_)
                            have oz_882 : Same [0, 1, 12] [6, 7, 8, 9, 10, 11, 12] z z_882 := oz1.tr o_930 (by decide) (by decide)
                            have xz_882 : RM z_882 := RM_same xz1 o_930 (by decide) (by decide)
                            have f_931 : 0 ≤ (gI z_882 12).toInt ∧ (gI z_882 12).toInt ≤ 16 := tz_882.1 12
                            have q_932 := ((o_930.fi 12 (by decide))).trans (show (gI z1 12).toInt = (gI z 12).toInt by rw [ez1]; rfl)
                            exact hk r_881 z_882 tz_882 oz_882 xz_882 (by first | exact Or.inl ⟨(by omega), (by omega), fun g => by unfold GJ at g; omega⟩ | exact Or.inr (Or.inl ⟨(by omega), (by omega), (by omega), (by unfold GJ; exact ⟨by omega, by omega, by omega, by omega, by omega, by omega, fun _ => by omega, fun _ => by omega, fun _ => by omega⟩)⟩) | exact Or.inr (Or.inr (Or.inl ⟨(by omega), (by omega), (by omega), (by omega), (by unfold GJ; exact ⟨by omega, by omega, by omega, by omega, by omega, by omega, fun _ => by omega, fun _ => by omega, fun _ => by omega⟩)⟩)) | exact Or.inr (Or.inr (Or.inr ⟨(by omega), (by omega), (by omega), (by omega), (by unfold GJ; exact ⟨by omega, by omega, by omega, by omega, by omega, by omega, fun _ => by omega, fun _ => by omega, fun _ => by omega⟩)⟩)))
                        · subst er_865
                          have f_933 : 0 ≤ (gI z1 8).toInt ∧ (gI z1 8).toInt ≤ 4 := tz1.1 8
                          have q_934 := (show (gI z1 8).toInt = (gI z 8).toInt by rw [ez1]; rfl)
                          have f_935 : 0 ≤ (gI z 8).toInt ∧ (gI z 8).toInt ≤ 4 := ht.1 8
                          refine ⟨fun hc => absurd hc (by decide), fun _ => ?_⟩
                          have g_936 : (-2 : Int32).toInt = -2 := by decide
                          refine s_X9_told ((-2 : Int32)) z1 _ tz1  (fun r_883 z_884 tz_884 o_938 hp_937 => ?_)
                          have oz_884 : Same [0, 1, 12] [6, 7, 8, 9, 10, 11, 12] z z_884 := oz1.tr o_938 (by decide) (by decide)
                          have xz_884 : RM z_884 := RM_same xz1 o_938 (by decide) (by decide)
                          have f_939 : 0 ≤ (gI z_884 12).toInt ∧ (gI z_884 12).toInt ≤ 16 := tz_884.1 12
                          have q_940 := ((o_938.fi 12 (by decide))).trans (show (gI z1 12).toInt = (gI z 12).toInt by rw [ez1]; rfl)
                          have f_941 : 0 ≤ (gI z 12).toInt ∧ (gI z 12).toInt ≤ 16 := ht.1 12
                          exact hk r_883 z_884 tz_884 oz_884 xz_884 (by first | exact Or.inl ⟨(by omega), (by omega), fun g => by unfold GJ at g; omega⟩ | exact Or.inr (Or.inl ⟨(by omega), (by omega), (by omega), (by unfold GJ; exact ⟨by omega, by omega, by omega, by omega, by omega, by omega, fun _ => by omega, fun _ => by omega, fun _ => by omega⟩)⟩) | exact Or.inr (Or.inr (Or.inl ⟨(by omega), (by omega), (by omega), (by omega), (by unfold GJ; exact ⟨by omega, by omega, by omega, by omega, by omega, by omega, fun _ => by omega, fun _ => by omega, fun _ => by omega⟩)⟩)) | exact Or.inr (Or.inr (Or.inr ⟨(by omega), (by omega), (by omega), (by omega), (by unfold GJ; exact ⟨by omega, by omega, by omega, by omega, by omega, by omega, fun _ => by omega, fun _ => by omega, fun _ => by omega⟩)⟩)))
                      · skip
                        have i_942 := i_nlt rfl (show (4 : Int32).toInt = 4 by decide) c_859
                        have g_943 : (Int32.toInt64 b8).toInt = b8.toInt := (a_wide rfl)
                        have g_944 : (0 : Int64).toInt = 0 := by decide
                        have g_945 : (5000 : Int64).toInt = 5000 := by decide
                        refine s_X9_in (Int32.toInt64 b8) ((0 : Int64)) ((5000 : Int64)) z1 _ tz1  (fun r_860 hp_946 => ?_)
                        rcases hp_946 with ⟨er_860, hp_946⟩ | ⟨er_860, hp_946⟩
                        · subst er_860
                          refine ⟨fun hc => absurd hc (by decide), fun _ => ?_⟩
                          refine hK_862  ?_
                          refine hK_198 ((1 : Int32)) ?_
                          refine ⟨fun _ => ?_, fun hc => absurd hc (by decide)⟩
                          refine s_X9_isHome b1 z1 _ tz1  (fun r_948 hp_970 => ?_)
                          rcases hp_970 with ⟨er_948, hp_970⟩ | ⟨er_948, hp_970⟩
                          · subst er_948
                            have f_971 : 0 ≤ (gI z1 8).toInt ∧ (gI z1 8).toInt ≤ 4 := tz1.1 8
                            have q_972 := (show (gI z1 8).toInt = (gI z 8).toInt by rw [ez1]; rfl)
                            have f_973 : 0 ≤ (gI z 8).toInt ∧ (gI z 8).toInt ≤ 4 := ht.1 8
                            refine ⟨fun _ => ?_, fun hc => absurd hc (by decide)⟩
                            refine ⟨fun c_950 => ?_, fun c_950 => ?_⟩
                            · skip
                              have f_974 : 0 ≤ (gI z1 12).toInt ∧ (gI z1 12).toInt ≤ 16 := tz1.1 12
                              have q_975 := (show (gI z1 12).toInt = (gI z 12).toInt by rw [ez1]; rfl)
                              have f_976 : 0 ≤ (gI z 12).toInt ∧ (gI z 12).toInt ≤ 16 := ht.1 12
                              have i_977 := i_ne rfl (show (16 : Int32).toInt = 16 by decide) c_950
                              refine ⟨vin rfl (by omega) (by omega), ?_⟩
                              intro z_951 ez_951
                              have tz_951 : TM z_951 := by rw [ez_951]; exact Ty_wR tz1 (show 0 ≤ b1.toInt ∧ b1.toInt ≤ 3 from by omega)
                              have oz_951 : Same [0, 1, 12] [6, 7, 8, 9, 10, 11, 12] z z_951 := oz1.r (by decide) ez_951
                              have xz_951 : RM z_951 := by rw [ez_951]; exact xz1
                              have f_978 : 0 ≤ (gI z_951 12).toInt ∧ (gI z_951 12).toInt ≤ 16 := tz_951.1 12
                              have q_979 := ((show (gI z_951 12).toInt = (gI z1 12).toInt by rw [ez_951]; rfl)).trans (show (gI z1 12).toInt = (gI z 12).toInt by rw [ez1]; rfl)
                              refine ⟨vin rfl (by omega) (by omega), ?_⟩
                              intro z_952 ez_952
                              have tz_952 : TM z_952 := by rw [ez_952]; exact Ty_wR tz_951 (show 0 ≤ b2.toInt ∧ b2.toInt ≤ 167 from by omega)
                              have oz_952 : Same [0, 1, 12] [6, 7, 8, 9, 10, 11, 12] z z_952 := oz_951.r (by decide) ez_952
                              have f_980 : 0 ≤ (gI z_952 12).toInt ∧ (gI z_952 12).toInt ≤ 16 := tz_952.1 12
                              have q_981 := (((show (gI z_952 12).toInt = (gI z_951 12).toInt by rw [ez_952]; rfl)).trans (show (gI z_951 12).toInt = (gI z1 12).toInt by rw [ez_951]; rfl)).trans (show (gI z1 12).toInt = (gI z 12).toInt by rw [ez1]; rfl)
                              refine ⟨vin rfl (by omega) (by omega), ?_⟩
                              intro z_953 ez_953
                              have tz_953 : TM z_953 := by rw [ez_953]; exact Ty_wR tz_952 (show 0 ≤ b3.toInt ∧ b3.toInt ≤ 167 from by omega)
                              have oz_953 : Same [0, 1, 12] [6, 7, 8, 9, 10, 11, 12] z z_953 := oz_952.r (by decide) ez_953
                              have xz_953 : RM z_953 := RM_job xz_951 ez_952 ez_953 (by rw [ez_952]; rfl) (by omega)
                              have f_982 : 0 ≤ (gI z_953 12).toInt ∧ (gI z_953 12).toInt ≤ 16 := tz_953.1 12
                              have q_983 := ((((show (gI z_953 12).toInt = (gI z_952 12).toInt by rw [ez_953]; rfl)).trans (show (gI z_952 12).toInt = (gI z_951 12).toInt by rw [ez_952]; rfl)).trans (show (gI z_951 12).toInt = (gI z1 12).toInt by rw [ez_951]; rfl)).trans (show (gI z1 12).toInt = (gI z 12).toInt by rw [ez1]; rfl)
                              refine ⟨vin rfl (by omega) (by omega), ?_⟩
                              intro z_954 ez_954
                              have tz_954 : TM z_954 := by rw [ez_954]; exact Ty_wR tz_953 (show 0 ≤ b4.toInt ∧ b4.toInt ≤ 4 from by omega)
                              have oz_954 : Same [0, 1, 12] [6, 7, 8, 9, 10, 11, 12] z z_954 := oz_953.r (by decide) ez_954
                              have xz_954 : RM z_954 := by rw [ez_954]; exact xz_953
                              have f_984 : 0 ≤ (gI z_954 12).toInt ∧ (gI z_954 12).toInt ≤ 16 := tz_954.1 12
                              have q_985 := (((((show (gI z_954 12).toInt = (gI z_953 12).toInt by rw [ez_954]; rfl)).trans (show (gI z_953 12).toInt = (gI z_952 12).toInt by rw [ez_953]; rfl)).trans (show (gI z_952 12).toInt = (gI z_951 12).toInt by rw [ez_952]; rfl)).trans (show (gI z_951 12).toInt = (gI z1 12).toInt by rw [ez_951]; rfl)).trans (show (gI z1 12).toInt = (gI z 12).toInt by rw [ez1]; rfl)
                              refine ⟨vin (a_mul (show (4 : Int32).toInt = 4 by decide) rfl (by omega) (by omega)) (by omega) (by omega), ?_⟩
                              intro z_955 ez_955
                              have tz_955 : TM z_955 := by rw [ez_955]; exact Ty_wR tz_954 trivial
                              have oz_955 : Same [0, 1, 12] [6, 7, 8, 9, 10, 11, 12] z z_955 := oz_954.r (by decide) ez_955
                              have xz_955 : RM z_955 := by rw [ez_955]; exact xz_954
                              have f_986 : 0 ≤ (gI z_955 12).toInt ∧ (gI z_955 12).toInt ≤ 16 := tz_955.1 12
                              have q_987 := ((((((show (gI z_955 12).toInt = (gI z_954 12).toInt by rw [ez_955]; rfl)).trans (show (gI z_954 12).toInt = (gI z_953 12).toInt by rw [ez_954]; rfl)).trans (show (gI z_953 12).toInt = (gI z_952 12).toInt by rw [ez_953]; rfl)).trans (show (gI z_952 12).toInt = (gI z_951 12).toInt by rw [ez_952]; rfl)).trans (show (gI z_951 12).toInt = (gI z1 12).toInt by rw [ez_951]; rfl)).trans (show (gI z1 12).toInt = (gI z 12).toInt by rw [ez1]; rfl)
                              refine ⟨vin (a_add (a_mul (show (4 : Int32).toInt = 4 by decide) rfl (by omega) (by omega)) (show (1 : Int32).toInt = 1 by decide) (by omega) (by omega)) (by omega) (by omega), ?_⟩
                              intro z_956 ez_956
                              have tz_956 : TM z_956 := by rw [ez_956]; exact Ty_wR tz_955 trivial
                              have oz_956 : Same [0, 1, 12] [6, 7, 8, 9, 10, 11, 12] z z_956 := oz_955.r (by decide) ez_956
                              have xz_956 : RM z_956 := by rw [ez_956]; exact xz_955
                              have f_988 : 0 ≤ (gI z_956 12).toInt ∧ (gI z_956 12).toInt ≤ 16 := tz_956.1 12
                              have q_989 := (((((((show (gI z_956 12).toInt = (gI z_955 12).toInt by rw [ez_956]; rfl)).trans (show (gI z_955 12).toInt = (gI z_954 12).toInt by rw [ez_955]; rfl)).trans (show (gI z_954 12).toInt = (gI z_953 12).toInt by rw [ez_954]; rfl)).trans (show (gI z_953 12).toInt = (gI z_952 12).toInt by rw [ez_953]; rfl)).trans (show (gI z_952 12).toInt = (gI z_951 12).toInt by rw [ez_952]; rfl)).trans (show (gI z_951 12).toInt = (gI z1 12).toInt by rw [ez_951]; rfl)).trans (show (gI z1 12).toInt = (gI z 12).toInt by rw [ez1]; rfl)
                              refine ⟨vin (a_add (a_mul (show (4 : Int32).toInt = 4 by decide) rfl (by omega) (by omega)) (show (2 : Int32).toInt = 2 by decide) (by omega) (by omega)) (by omega) (by omega), ?_⟩
                              intro z_957 ez_957
                              have tz_957 : TM z_957 := by rw [ez_957]; exact Ty_wR tz_956 trivial
                              have oz_957 : Same [0, 1, 12] [6, 7, 8, 9, 10, 11, 12] z z_957 := oz_956.r (by decide) ez_957
                              have xz_957 : RM z_957 := by rw [ez_957]; exact xz_956
                              have f_990 : 0 ≤ (gI z_957 12).toInt ∧ (gI z_957 12).toInt ≤ 16 := tz_957.1 12
                              have q_991 := ((((((((show (gI z_957 12).toInt = (gI z_956 12).toInt by rw [ez_957]; rfl)).trans (show (gI z_956 12).toInt = (gI z_955 12).toInt by rw [ez_956]; rfl)).trans (show (gI z_955 12).toInt = (gI z_954 12).toInt by rw [ez_955]; rfl)).trans (show (gI z_954 12).toInt = (gI z_953 12).toInt by rw [ez_954]; rfl)).trans (show (gI z_953 12).toInt = (gI z_952 12).toInt by rw [ez_953]; rfl)).trans (show (gI z_952 12).toInt = (gI z_951 12).toInt by rw [ez_952]; rfl)).trans (show (gI z_951 12).toInt = (gI z1 12).toInt by rw [ez_951]; rfl)).trans (show (gI z1 12).toInt = (gI z 12).toInt by rw [ez1]; rfl)
                              refine ⟨vin (a_add (a_mul (show (4 : Int32).toInt = 4 by decide) rfl (by omega) (by omega)) (show (3 : Int32).toInt = 3 by decide) (by omega) (by omega)) (by omega) (by omega), ?_⟩
                              intro z_958 ez_958
                              have tz_958 : TM z_958 := by rw [ez_958]; exact Ty_wR tz_957 trivial
                              have oz_958 : Same [0, 1, 12] [6, 7, 8, 9, 10, 11, 12] z z_958 := oz_957.r (by decide) ez_958
                              have xz_958 : RM z_958 := by rw [ez_958]; exact xz_957
                              have f_992 : 0 ≤ (gI z_958 12).toInt ∧ (gI z_958 12).toInt ≤ 16 := tz_958.1 12
                              have q_993 := (((((((((show (gI z_958 12).toInt = (gI z_957 12).toInt by rw [ez_958]; rfl)).trans (show (gI z_957 12).toInt = (gI z_956 12).toInt by rw [ez_957]; rfl)).trans (show (gI z_956 12).toInt = (gI z_955 12).toInt by rw [ez_956]; rfl)).trans (show (gI z_955 12).toInt = (gI z_954 12).toInt by rw [ez_955]; rfl)).trans (show (gI z_954 12).toInt = (gI z_953 12).toInt by rw [ez_954]; rfl)).trans (show (gI z_953 12).toInt = (gI z_952 12).toInt by rw [ez_953]; rfl)).trans (show (gI z_952 12).toInt = (gI z_951 12).toInt by rw [ez_952]; rfl)).trans (show (gI z_951 12).toInt = (gI z1 12).toInt by rw [ez_951]; rfl)).trans (show (gI z1 12).toInt = (gI z 12).toInt by rw [ez1]; rfl)
                              refine ⟨vin rfl (by omega) (by omega), ?_⟩
                              intro z_959 ez_959
                              have tz_959 : TM z_959 := by rw [ez_959]; exact Ty_wR tz_958 trivial
                              have oz_959 : Same [0, 1, 12] [6, 7, 8, 9, 10, 11, 12] z z_959 := oz_958.r (by decide) ez_959
                              have xz_959 : RM z_959 := by rw [ez_959]; exact xz_958
                              have f_994 : 0 ≤ (gI z_959 12).toInt ∧ (gI z_959 12).toInt ≤ 16 := tz_959.1 12
                              have q_995 := ((((((((((show (gI z_959 12).toInt = (gI z_958 12).toInt by rw [ez_959]; rfl)).trans (show (gI z_958 12).toInt = (gI z_957 12).toInt by rw [ez_958]; rfl)).trans (show (gI z_957 12).toInt = (gI z_956 12).toInt by rw [ez_957]; rfl)).trans (show (gI z_956 12).toInt = (gI z_955 12).toInt by rw [ez_956]; rfl)).trans (show (gI z_955 12).toInt = (gI z_954 12).toInt by rw [ez_955]; rfl)).trans (show (gI z_954 12).toInt = (gI z_953 12).toInt by rw [ez_954]; rfl)).trans (show (gI z_953 12).toInt = (gI z_952 12).toInt by rw [ez_953]; rfl)).trans (show (gI z_952 12).toInt = (gI z_951 12).toInt by rw [ez_952]; rfl)).trans (show (gI z_951 12).toInt = (gI z1 12).toInt by rw [ez_951]; rfl)).trans (show (gI z1 12).toInt = (gI z 12).toInt by rw [ez1]; rfl)
                              refine ⟨vin rfl (by omega) (by omega), ?_⟩
                              intro z_960 ez_960
                              have tz_960 : TM z_960 := by rw [ez_960]; exact Ty_wR tz_959 trivial
                              have oz_960 : Same [0, 1, 12] [6, 7, 8, 9, 10, 11, 12] z z_960 := oz_959.r (by decide) ez_960
                              have xz_960 : RM z_960 := by rw [ez_960]; exact xz_959
                              intro z_961 ez_961
                              have f_996 : 0 ≤ (gI z_960 12).toInt ∧ (gI z_960 12).toInt ≤ 16 := tz_960.1 12
                              have q_997 := (((((((((((show (gI z_960 12).toInt = (gI z_959 12).toInt by rw [ez_960]; rfl)).trans (show (gI z_959 12).toInt = (gI z_958 12).toInt by rw [ez_959]; rfl)).trans (show (gI z_958 12).toInt = (gI z_957 12).toInt by rw [ez_958]; rfl)).trans (show (gI z_957 12).toInt = (gI z_956 12).toInt by rw [ez_957]; rfl)).trans (show (gI z_956 12).toInt = (gI z_955 12).toInt by rw [ez_956]; rfl)).trans (show (gI z_955 12).toInt = (gI z_954 12).toInt by rw [ez_955]; rfl)).trans (show (gI z_954 12).toInt = (gI z_953 12).toInt by rw [ez_954]; rfl)).trans (show (gI z_953 12).toInt = (gI z_952 12).toInt by rw [ez_953]; rfl)).trans (show (gI z_952 12).toInt = (gI z_951 12).toInt by rw [ez_952]; rfl)).trans (show (gI z_951 12).toInt = (gI z1 12).toInt by rw [ez_951]; rfl)).trans (show (gI z1 12).toInt = (gI z 12).toInt by rw [ez1]; rfl)
                              have tz_961 : TM z_961 := by rw [ez_961]; exact Ty_wI tz_960 (show 0 ≤ ((gI z_960 12) + (1 : Int32)).toInt ∧ ((gI z_960 12) + (1 : Int32)).toInt ≤ 16 from by rw [(a_add rfl (show (1 : Int32).toInt = 1 by decide) (by omega) (by omega))]; omega)
                              have oz_961 : Same [0, 1, 12] [6, 7, 8, 9, 10, 11, 12] z z_961 := oz_960.i (by decide) ez_961
                              have xz_961 : RM z_961 := by rw [ez_961]; exact xz_960
                              have f_998 : 0 ≤ (gI z_961 12).toInt ∧ (gI z_961 12).toInt ≤ 16 := tz_961.1 12
                              have q_999 := (show (gI z_961 12).toInt = ((gI z_960 12) + (1 : Int32)).toInt by rw [ez_961]; rfl)
                              have q_1000 : ((gI z_960 12) + (1 : Int32)).toInt = ((gI z_960 12).toInt + (1)) := (a_add rfl (show (1 : Int32).toInt = 1 by decide) (by omega) (by omega))
                              have g_1001 : ((gI z_961 12) - (1 : Int32)).toInt = ((gI z_961 12).toInt - (1)) := (a_sub rfl (show (1 : Int32).toInt = 1 by decide) (by omega) (by omega))
                              refine s_X9_told ((gI z_961 12) - ((1 : Int32))) z_961 _ tz_961  (fun r_962 z_963 tz_963 o_1003 hp_1002 => ?_)
                              have oz_963 : Same [0, 1, 12] [6, 7, 8, 9, 10, 11, 12] z z_963 := oz_961.tr o_1003 (by decide) (by decide)
                              have xz_963 : RM z_963 := RM_same xz_961 o_1003 (by decide) (by decide)
                              have f_1004 : 0 ≤ (gI z_963 12).toInt ∧ (gI z_963 12).toInt ≤ 16 := tz_963.1 12
                              have q_1005 := ((o_1003.fi 12 (by decide))).trans (show (gI z_961 12).toInt = ((gI z_960 12) + (1 : Int32)).toInt by rw [ez_961]; rfl)
                              have q_1006 : ((gI z_960 12) + (1 : Int32)).toInt = ((gI z_960 12).toInt + (1)) := (a_add rfl (show (1 : Int32).toInt = 1 by decide) (by omega) (by omega))
                              exact hk r_962 z_963 tz_963 oz_963 xz_963 (by first | exact Or.inl ⟨(by omega), (by omega), fun g => by unfold GJ at g; omega⟩ | exact Or.inr (Or.inl ⟨(by omega), (by omega), (by omega), (by unfold GJ; exact ⟨by omega, by omega, by omega, by omega, by omega, by omega, fun _ => by omega, fun _ => by omega, fun _ => by omega⟩)⟩) | exact Or.inr (Or.inr (Or.inl ⟨(by omega), (by omega), (by omega), (by omega), (by unfold GJ; exact ⟨by omega, by omega, by omega, by omega, by omega, by omega, fun _ => by omega, fun _ => by omega, fun _ => by omega⟩)⟩)) | exact Or.inr (Or.inr (Or.inr ⟨(by omega), (by omega), (by omega), (by omega), (by unfold GJ; exact ⟨by omega, by omega, by omega, by omega, by omega, by omega, fun _ => by omega, fun _ => by omega, fun _ => by omega⟩)⟩)))
                            · skip
                              have f_1007 : 0 ≤ (gI z1 12).toInt ∧ (gI z1 12).toInt ≤ 16 := tz1.1 12
                              have q_1008 := (show (gI z1 12).toInt = (gI z 12).toInt by rw [ez1]; rfl)
                              have f_1009 : 0 ≤ (gI z 12).toInt ∧ (gI z 12).toInt ≤ 16 := ht.1 12
                              have i_1010 := i_eq rfl (show (16 : Int32).toInt = 16 by decide) c_950
                              have g_1011 : (-5 : Int32).toInt = -5 := by decide
                              refine s_X9_told ((-5 : Int32)) z1 _ tz1  (fun r_964 z_965 tz_965 o_1013 hp_1012 => ?_)
                              have oz_965 : Same [0, 1, 12] [6, 7, 8, 9, 10, 11, 12] z z_965 := oz1.tr o_1013 (by decide) (by decide)
                              have xz_965 : RM z_965 := RM_same xz1 o_1013 (by decide) (by decide)
                              have f_1014 : 0 ≤ (gI z_965 12).toInt ∧ (gI z_965 12).toInt ≤ 16 := tz_965.1 12
                              have q_1015 := ((o_1013.fi 12 (by decide))).trans (show (gI z1 12).toInt = (gI z 12).toInt by rw [ez1]; rfl)
                              exact hk r_964 z_965 tz_965 oz_965 xz_965 (by first | exact Or.inl ⟨(by omega), (by omega), fun g => by unfold GJ at g; omega⟩ | exact Or.inr (Or.inl ⟨(by omega), (by omega), (by omega), (by unfold GJ; exact ⟨by omega, by omega, by omega, by omega, by omega, by omega, fun _ => by omega, fun _ => by omega, fun _ => by omega⟩)⟩) | exact Or.inr (Or.inr (Or.inl ⟨(by omega), (by omega), (by omega), (by omega), (by unfold GJ; exact ⟨by omega, by omega, by omega, by omega, by omega, by omega, fun _ => by omega, fun _ => by omega, fun _ => by omega⟩)⟩)) | exact Or.inr (Or.inr (Or.inr ⟨(by omega), (by omega), (by omega), (by omega), (by unfold GJ; exact ⟨by omega, by omega, by omega, by omega, by omega, by omega, fun _ => by omega, fun _ => by omega, fun _ => by omega⟩)⟩)))
                          · subst er_948
                            have f_1016 : 0 ≤ (gI z1 8).toInt ∧ (gI z1 8).toInt ≤ 4 := tz1.1 8
                            have q_1017 := (show (gI z1 8).toInt = (gI z 8).toInt by rw [ez1]; rfl)
                            have f_1018 : 0 ≤ (gI z 8).toInt ∧ (gI z 8).toInt ≤ 4 := ht.1 8
                            refine ⟨fun hc => absurd hc (by decide), fun _ => ?_⟩
                            have g_1019 : (-2 : Int32).toInt = -2 := by decide
                            refine s_X9_told ((-2 : Int32)) z1 _ tz1  (fun r_966 z_967 tz_967 o_1021 hp_1020 => ?_)
                            have oz_967 : Same [0, 1, 12] [6, 7, 8, 9, 10, 11, 12] z z_967 := oz1.tr o_1021 (by decide) (by decide)
                            have xz_967 : RM z_967 := RM_same xz1 o_1021 (by decide) (by decide)
                            have f_1022 : 0 ≤ (gI z_967 12).toInt ∧ (gI z_967 12).toInt ≤ 16 := tz_967.1 12
                            have q_1023 := ((o_1021.fi 12 (by decide))).trans (show (gI z1 12).toInt = (gI z 12).toInt by rw [ez1]; rfl)
                            have f_1024 : 0 ≤ (gI z 12).toInt ∧ (gI z 12).toInt ≤ 16 := ht.1 12
                            exact hk r_966 z_967 tz_967 oz_967 xz_967 (by first | exact Or.inl ⟨(by omega), (by omega), fun g => by unfold GJ at g; omega⟩ | exact Or.inr (Or.inl ⟨(by omega), (by omega), (by omega), (by unfold GJ; exact ⟨by omega, by omega, by omega, by omega, by omega, by omega, fun _ => by omega, fun _ => by omega, fun _ => by omega⟩)⟩) | exact Or.inr (Or.inr (Or.inl ⟨(by omega), (by omega), (by omega), (by omega), (by unfold GJ; exact ⟨by omega, by omega, by omega, by omega, by omega, by omega, fun _ => by omega, fun _ => by omega, fun _ => by omega⟩)⟩)) | exact Or.inr (Or.inr (Or.inr ⟨(by omega), (by omega), (by omega), (by omega), (by unfold GJ; exact ⟨by omega, by omega, by omega, by omega, by omega, by omega, fun _ => by omega, fun _ => by omega, fun _ => by omega⟩)⟩)))
                        · subst er_860
                          refine ⟨fun _ => ?_, fun hc => absurd (show ((0 : Int32)) = ((0 : Int32)) by decide) hc⟩
                          refine hK_199  ?_
                          refine hK_198 ((0 : Int32)) ?_
                          refine ⟨fun hc => absurd hc (by decide), fun _ => ?_⟩
                          have g_1048 : (-1 : Int32).toInt = -1 := by decide
                          refine s_X9_told ((-1 : Int32)) z1 _ tz1  (fun r_1046 z_1047 tz_1047 o_1050 hp_1049 => ?_)
                          have oz_1047 : Same [0, 1, 12] [6, 7, 8, 9, 10, 11, 12] z z_1047 := oz1.tr o_1050 (by decide) (by decide)
                          have xz_1047 : RM z_1047 := RM_same xz1 o_1050 (by decide) (by decide)
                          have f_1051 : 0 ≤ (gI z_1047 12).toInt ∧ (gI z_1047 12).toInt ≤ 16 := tz_1047.1 12
                          have q_1052 := ((o_1050.fi 12 (by decide))).trans (show (gI z1 12).toInt = (gI z 12).toInt by rw [ez1]; rfl)
                          have f_1053 : 0 ≤ (gI z 12).toInt ∧ (gI z 12).toInt ≤ 16 := ht.1 12
                          have f_1054 : 0 ≤ (gI z 8).toInt ∧ (gI z 8).toInt ≤ 4 := ht.1 8
                          exact hk r_1046 z_1047 tz_1047 oz_1047 xz_1047 (by first | exact Or.inl ⟨(by omega), (by omega), fun g => by unfold GJ at g; omega⟩ | exact Or.inr (Or.inl ⟨(by omega), (by omega), (by omega), (by unfold GJ; exact ⟨by omega, by omega, by omega, by omega, by omega, by omega, fun _ => by omega, fun _ => by omega, fun _ => by omega⟩)⟩) | exact Or.inr (Or.inr (Or.inl ⟨(by omega), (by omega), (by omega), (by omega), (by unfold GJ; exact ⟨by omega, by omega, by omega, by omega, by omega, by omega, fun _ => by omega, fun _ => by omega, fun _ => by omega⟩)⟩)) | exact Or.inr (Or.inr (Or.inr ⟨(by omega), (by omega), (by omega), (by omega), (by unfold GJ; exact ⟨by omega, by omega, by omega, by omega, by omega, by omega, fun _ => by omega, fun _ => by omega, fun _ => by omega⟩)⟩)))
                    · subst er_652
                      refine ⟨fun _ => ?_, fun hc => absurd (show ((0 : Int32)) = ((0 : Int32)) by decide) hc⟩
                      refine hK_199  ?_
                      refine hK_198 ((0 : Int32)) ?_
                      refine ⟨fun hc => absurd hc (by decide), fun _ => ?_⟩
                      have g_1078 : (-1 : Int32).toInt = -1 := by decide
                      refine s_X9_told ((-1 : Int32)) z1 _ tz1  (fun r_1076 z_1077 tz_1077 o_1080 hp_1079 => ?_)
                      have oz_1077 : Same [0, 1, 12] [6, 7, 8, 9, 10, 11, 12] z z_1077 := oz1.tr o_1080 (by decide) (by decide)
                      have xz_1077 : RM z_1077 := RM_same xz1 o_1080 (by decide) (by decide)
                      have f_1081 : 0 ≤ (gI z_1077 12).toInt ∧ (gI z_1077 12).toInt ≤ 16 := tz_1077.1 12
                      have q_1082 := ((o_1080.fi 12 (by decide))).trans (show (gI z1 12).toInt = (gI z 12).toInt by rw [ez1]; rfl)
                      have f_1083 : 0 ≤ (gI z 12).toInt ∧ (gI z 12).toInt ≤ 16 := ht.1 12
                      have f_1084 : 0 ≤ (gI z 8).toInt ∧ (gI z 8).toInt ≤ 4 := ht.1 8
                      exact hk r_1076 z_1077 tz_1077 oz_1077 xz_1077 (by first | exact Or.inl ⟨(by omega), (by omega), fun g => by unfold GJ at g; omega⟩ | exact Or.inr (Or.inl ⟨(by omega), (by omega), (by omega), (by unfold GJ; exact ⟨by omega, by omega, by omega, by omega, by omega, by omega, fun _ => by omega, fun _ => by omega, fun _ => by omega⟩)⟩) | exact Or.inr (Or.inr (Or.inl ⟨(by omega), (by omega), (by omega), (by omega), (by unfold GJ; exact ⟨by omega, by omega, by omega, by omega, by omega, by omega, fun _ => by omega, fun _ => by omega, fun _ => by omega⟩)⟩)) | exact Or.inr (Or.inr (Or.inr ⟨(by omega), (by omega), (by omega), (by omega), (by unfold GJ; exact ⟨by omega, by omega, by omega, by omega, by omega, by omega, fun _ => by omega, fun _ => by omega, fun _ => by omega⟩)⟩)))
                · subst er_196
                  refine ⟨fun _ => ?_, fun hc => absurd (show ((0 : Int32)) = ((0 : Int32)) by decide) hc⟩
                  refine hK_199  ?_
                  refine hK_198 ((0 : Int32)) ?_
                  refine ⟨fun hc => absurd hc (by decide), fun _ => ?_⟩
                  have g_1108 : (-1 : Int32).toInt = -1 := by decide
                  refine s_X9_told ((-1 : Int32)) z1 _ tz1  (fun r_1106 z_1107 tz_1107 o_1110 hp_1109 => ?_)
                  have oz_1107 : Same [0, 1, 12] [6, 7, 8, 9, 10, 11, 12] z z_1107 := oz1.tr o_1110 (by decide) (by decide)
                  have xz_1107 : RM z_1107 := RM_same xz1 o_1110 (by decide) (by decide)
                  have f_1111 : 0 ≤ (gI z_1107 12).toInt ∧ (gI z_1107 12).toInt ≤ 16 := tz_1107.1 12
                  have q_1112 := ((o_1110.fi 12 (by decide))).trans (show (gI z1 12).toInt = (gI z 12).toInt by rw [ez1]; rfl)
                  have f_1113 : 0 ≤ (gI z 12).toInt ∧ (gI z 12).toInt ≤ 16 := ht.1 12
                  have f_1114 : 0 ≤ (gI z 8).toInt ∧ (gI z 8).toInt ≤ 4 := ht.1 8
                  exact hk r_1106 z_1107 tz_1107 oz_1107 xz_1107 (by first | exact Or.inl ⟨(by omega), (by omega), fun g => by unfold GJ at g; omega⟩ | exact Or.inr (Or.inl ⟨(by omega), (by omega), (by omega), (by unfold GJ; exact ⟨by omega, by omega, by omega, by omega, by omega, by omega, fun _ => by omega, fun _ => by omega, fun _ => by omega⟩)⟩) | exact Or.inr (Or.inr (Or.inl ⟨(by omega), (by omega), (by omega), (by omega), (by unfold GJ; exact ⟨by omega, by omega, by omega, by omega, by omega, by omega, fun _ => by omega, fun _ => by omega, fun _ => by omega⟩)⟩)) | exact Or.inr (Or.inr (Or.inr ⟨(by omega), (by omega), (by omega), (by omega), (by unfold GJ; exact ⟨by omega, by omega, by omega, by omega, by omega, by omega, fun _ => by omega, fun _ => by omega, fun _ => by omega⟩)⟩)))
            · subst er60
              refine ⟨fun _ => ?_, fun hc => absurd (show ((0 : Int32)) = ((0 : Int32)) by decide) hc⟩
              refine hK_3  ?_
              refine hK_2 ((0 : Int32)) ?_
              intro K_1115 hK_1154
              intro K_1140 hK_1155
              refine ⟨fun _ => ?_, fun hc => absurd (show ((0 : Int32)) = ((0 : Int32)) by decide) hc⟩
              refine hK_1155  ?_
              refine hK_1154 ((0 : Int32)) ?_
              refine ⟨fun hc => absurd hc (by decide), fun _ => ?_⟩
              have g_1179 : (-1 : Int32).toInt = -1 := by decide
              refine s_X9_told ((-1 : Int32)) z1 _ tz1  (fun r_1177 z_1178 tz_1178 o_1181 hp_1180 => ?_)
              have oz_1178 : Same [0, 1, 12] [6, 7, 8, 9, 10, 11, 12] z z_1178 := oz1.tr o_1181 (by decide) (by decide)
              have xz_1178 : RM z_1178 := RM_same xz1 o_1181 (by decide) (by decide)
              have f_1182 : 0 ≤ (gI z_1178 12).toInt ∧ (gI z_1178 12).toInt ≤ 16 := tz_1178.1 12
              have q_1183 := ((o_1181.fi 12 (by decide))).trans (show (gI z1 12).toInt = (gI z 12).toInt by rw [ez1]; rfl)
              have f_1184 : 0 ≤ (gI z 12).toInt ∧ (gI z 12).toInt ≤ 16 := ht.1 12
              have f_1185 : 0 ≤ (gI z 8).toInt ∧ (gI z 8).toInt ≤ 4 := ht.1 8
              exact hk r_1177 z_1178 tz_1178 oz_1178 xz_1178 (by first | exact Or.inl ⟨(by omega), (by omega), fun g => by unfold GJ at g; omega⟩ | exact Or.inr (Or.inl ⟨(by omega), (by omega), (by omega), (by unfold GJ; exact ⟨by omega, by omega, by omega, by omega, by omega, by omega, fun _ => by omega, fun _ => by omega, fun _ => by omega⟩)⟩) | exact Or.inr (Or.inr (Or.inl ⟨(by omega), (by omega), (by omega), (by omega), (by unfold GJ; exact ⟨by omega, by omega, by omega, by omega, by omega, by omega, fun _ => by omega, fun _ => by omega, fun _ => by omega⟩)⟩)) | exact Or.inr (Or.inr (Or.inr ⟨(by omega), (by omega), (by omega), (by omega), (by unfold GJ; exact ⟨by omega, by omega, by omega, by omega, by omega, by omega, fun _ => by omega, fun _ => by omega, fun _ => by omega⟩)⟩)))
          · subst er57
            refine ⟨fun _ => ?_, fun hc => absurd (show ((0 : Int32)) = ((0 : Int32)) by decide) hc⟩
            refine hK_3  ?_
            refine hK_2 ((0 : Int32)) ?_
            intro K_1186 hK_1225
            intro K_1211 hK_1226
            refine ⟨fun _ => ?_, fun hc => absurd (show ((0 : Int32)) = ((0 : Int32)) by decide) hc⟩
            refine hK_1226  ?_
            refine hK_1225 ((0 : Int32)) ?_
            refine ⟨fun hc => absurd hc (by decide), fun _ => ?_⟩
            have g_1250 : (-1 : Int32).toInt = -1 := by decide
            refine s_X9_told ((-1 : Int32)) z1 _ tz1  (fun r_1248 z_1249 tz_1249 o_1252 hp_1251 => ?_)
            have oz_1249 : Same [0, 1, 12] [6, 7, 8, 9, 10, 11, 12] z z_1249 := oz1.tr o_1252 (by decide) (by decide)
            have xz_1249 : RM z_1249 := RM_same xz1 o_1252 (by decide) (by decide)
            have f_1253 : 0 ≤ (gI z_1249 12).toInt ∧ (gI z_1249 12).toInt ≤ 16 := tz_1249.1 12
            have q_1254 := ((o_1252.fi 12 (by decide))).trans (show (gI z1 12).toInt = (gI z 12).toInt by rw [ez1]; rfl)
            have f_1255 : 0 ≤ (gI z 12).toInt ∧ (gI z 12).toInt ≤ 16 := ht.1 12
            have f_1256 : 0 ≤ (gI z 8).toInt ∧ (gI z 8).toInt ≤ 4 := ht.1 8
            exact hk r_1248 z_1249 tz_1249 oz_1249 xz_1249 (by first | exact Or.inl ⟨(by omega), (by omega), fun g => by unfold GJ at g; omega⟩ | exact Or.inr (Or.inl ⟨(by omega), (by omega), (by omega), (by unfold GJ; exact ⟨by omega, by omega, by omega, by omega, by omega, by omega, fun _ => by omega, fun _ => by omega, fun _ => by omega⟩)⟩) | exact Or.inr (Or.inr (Or.inl ⟨(by omega), (by omega), (by omega), (by omega), (by unfold GJ; exact ⟨by omega, by omega, by omega, by omega, by omega, by omega, fun _ => by omega, fun _ => by omega, fun _ => by omega⟩)⟩)) | exact Or.inr (Or.inr (Or.inr ⟨(by omega), (by omega), (by omega), (by omega), (by unfold GJ; exact ⟨by omega, by omega, by omega, by omega, by omega, by omega, fun _ => by omega, fun _ => by omega, fun _ => by omega⟩)⟩)))
    · subst er52
      refine ⟨fun _ => ?_, fun hc => absurd (show ((0 : Int32)) = ((0 : Int32)) by decide) hc⟩
      refine hK_3  ?_
      refine hK_2 ((0 : Int32)) ?_
      intro K_1257 hK_1296
      intro K_1282 hK_1297
      refine ⟨fun _ => ?_, fun hc => absurd (show ((0 : Int32)) = ((0 : Int32)) by decide) hc⟩
      refine hK_1297  ?_
      refine hK_1296 ((0 : Int32)) ?_
      refine ⟨fun hc => absurd hc (by decide), fun _ => ?_⟩
      have g_1321 : (-1 : Int32).toInt = -1 := by decide
      refine s_X9_told ((-1 : Int32)) z1 _ tz1  (fun r_1319 z_1320 tz_1320 o_1323 hp_1322 => ?_)
      have oz_1320 : Same [0, 1, 12] [6, 7, 8, 9, 10, 11, 12] z z_1320 := oz1.tr o_1323 (by decide) (by decide)
      have xz_1320 : RM z_1320 := RM_same xz1 o_1323 (by decide) (by decide)
      have f_1324 : 0 ≤ (gI z_1320 12).toInt ∧ (gI z_1320 12).toInt ≤ 16 := tz_1320.1 12
      have q_1325 := ((o_1323.fi 12 (by decide))).trans (show (gI z1 12).toInt = (gI z 12).toInt by rw [ez1]; rfl)
      have f_1326 : 0 ≤ (gI z 12).toInt ∧ (gI z 12).toInt ≤ 16 := ht.1 12
      have f_1327 : 0 ≤ (gI z 8).toInt ∧ (gI z 8).toInt ≤ 4 := ht.1 8
      exact hk r_1319 z_1320 tz_1320 oz_1320 xz_1320 (by first | exact Or.inl ⟨(by omega), (by omega), fun g => by unfold GJ at g; omega⟩ | exact Or.inr (Or.inl ⟨(by omega), (by omega), (by omega), (by unfold GJ; exact ⟨by omega, by omega, by omega, by omega, by omega, by omega, fun _ => by omega, fun _ => by omega, fun _ => by omega⟩)⟩) | exact Or.inr (Or.inr (Or.inl ⟨(by omega), (by omega), (by omega), (by omega), (by unfold GJ; exact ⟨by omega, by omega, by omega, by omega, by omega, by omega, fun _ => by omega, fun _ => by omega, fun _ => by omega⟩)⟩)) | exact Or.inr (Or.inr (Or.inr ⟨(by omega), (by omega), (by omega), (by omega), (by unfold GJ; exact ⟨by omega, by omega, by omega, by omega, by omega, by omega, fun _ => by omega, fun _ => by omega, fun _ => by omega⟩)⟩)))
  · subst er3
    intro K5 hK_1328
    intro K49 hK_1329
    refine ⟨fun _ => ?_, fun hc => absurd (show ((0 : Int32)) = ((0 : Int32)) by decide) hc⟩
    refine hK_1329  ?_
    refine hK_1328 ((0 : Int32)) ?_
    intro K_1330 hK_1369
    intro K_1355 hK_1370
    refine ⟨fun _ => ?_, fun hc => absurd (show ((0 : Int32)) = ((0 : Int32)) by decide) hc⟩
    refine hK_1370  ?_
    refine hK_1369 ((0 : Int32)) ?_
    refine ⟨fun hc => absurd hc (by decide), fun _ => ?_⟩
    have g_1394 : (-1 : Int32).toInt = -1 := by decide
    refine s_X9_told ((-1 : Int32)) z1 _ tz1  (fun r_1392 z_1393 tz_1393 o_1396 hp_1395 => ?_)
    have oz_1393 : Same [0, 1, 12] [6, 7, 8, 9, 10, 11, 12] z z_1393 := oz1.tr o_1396 (by decide) (by decide)
    have xz_1393 : RM z_1393 := RM_same xz1 o_1396 (by decide) (by decide)
    have f_1397 : 0 ≤ (gI z_1393 12).toInt ∧ (gI z_1393 12).toInt ≤ 16 := tz_1393.1 12
    have q_1398 := ((o_1396.fi 12 (by decide))).trans (show (gI z1 12).toInt = (gI z 12).toInt by rw [ez1]; rfl)
    have f_1399 : 0 ≤ (gI z 12).toInt ∧ (gI z 12).toInt ≤ 16 := ht.1 12
    have f_1400 : 0 ≤ (gI z 8).toInt ∧ (gI z 8).toInt ≤ 4 := ht.1 8
    exact hk r_1392 z_1393 tz_1393 oz_1393 xz_1393 (by first | exact Or.inl ⟨(by omega), (by omega), fun g => by unfold GJ at g; omega⟩ | exact Or.inr (Or.inl ⟨(by omega), (by omega), (by omega), (by unfold GJ; exact ⟨by omega, by omega, by omega, by omega, by omega, by omega, fun _ => by omega, fun _ => by omega, fun _ => by omega⟩)⟩) | exact Or.inr (Or.inr (Or.inl ⟨(by omega), (by omega), (by omega), (by omega), (by unfold GJ; exact ⟨by omega, by omega, by omega, by omega, by omega, by omega, fun _ => by omega, fun _ => by omega, fun _ => by omega⟩)⟩)) | exact Or.inr (Or.inr (Or.inr ⟨(by omega), (by omega), (by omega), (by omega), (by unfold GJ; exact ⟨by omega, by omega, by omega, by omega, by omega, by omega, fun _ => by omega, fun _ => by omega, fun _ => by omega⟩)⟩)))

