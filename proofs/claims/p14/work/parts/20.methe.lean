def wp_X9_readRule  (z : St) (P : St → Prop) : Prop :=
  (wp_X9_isWord ((113 : Int32)) ((117 : Int32)) ((105 : Int32)) ((101 : Int32)) ((116 : Int32)) ((0 : Int32)) z (fun r2 z1 => (∀ K4 : Int32 → St → Prop, (∀ (s3 : Int32) (z5 : St), (∀ K8 : Int32 → Int32 → St → Prop, (∀ (v6 : Int32) (s7 : Int32) (z9 : St), (wp_X9_must s7 z9 (fun z10 => (∀ K14 : Int32 → Int64 → St → Prop, (∀ (v12 : Int32) (s13 : Int64) (z15 : St), (wp_X9_number s13 z15 (fun r17 z16 => (∀ K22 : Int32 → Int32 → Int32 → Int32 → St → Prop, (∀ (v18 : Int32) (v19 : Int32) (v20 : Int32) (v21 : Int32) (z23 : St), ((((gI z23 42) = 0) → (vp_in (((4 : Int32)) * (gI z23 34)) 80 ∧ (∀ z25 : St, z25 = wR z23 24 (upd (gF z23 24) (((4 : Int32)) * (gI z23 34)).toNatClampNeg v18) → (vp_in ((((4 : Int32)) * (gI z25 34)) + ((1 : Int32))) 80 ∧ (∀ z26 : St, z26 = wR z25 24 (upd (gF z25 24) ((((4 : Int32)) * (gI z25 34)) + ((1 : Int32))).toNatClampNeg v19) → (vp_in ((((4 : Int32)) * (gI z26 34)) + ((2 : Int32))) 80 ∧ (∀ z27 : St, z27 = wR z26 24 (upd (gF z26 24) ((((4 : Int32)) * (gI z26 34)) + ((2 : Int32))).toNatClampNeg v20) → (vp_in ((((4 : Int32)) * (gI z27 34)) + ((3 : Int32))) 80 ∧ (∀ z28 : St, z28 = wR z27 24 (upd (gF z27 24) ((((4 : Int32)) * (gI z27 34)) + ((3 : Int32))).toNatClampNeg v21) → (∀ z29 : St, z29 = wI z28 34 ((gI z28 34) + ((1 : Int32))) → P z29)))))))))) ∧ (¬ ((gI z23 42) = 0) → P z23)) → K22 v18 v19 v20 v21 z23) → (((¬ v12 = 0) → (((¬ v12 = ((2 : Int32))) → K22 v12 r17 ((0 : Int32)) ((0 : Int32)) z16) ∧ (v12 = ((2 : Int32)) → (wp_X9_isWord ((98 : Int32)) ((101 : Int32)) ((102 : Int32)) ((111 : Int32)) ((114 : Int32)) ((101 : Int32)) z16 (fun r33 z32 => (wp_X9_must r33 z32 (fun z34 => (∀ x36 : Int32, x36 = Int64.toInt32 (gJ z34 40) → (∀ K42 : Int32 → Int32 → Int32 → Int32 → Int32 → St → Prop, (∀ (v37 : Int32) (v38 : Int32) (v39 : Int32) (v40 : Int32) (s41 : Int32) (z43 : St), (wp_X9_must s41 z43 (fun z44 => K22 v37 v38 v39 v40 z44)) → K42 v37 v38 v39 v40 s41 z43) → (∀ K50 : Int32 → Int32 → Int32 → Int32 → St → Prop, (∀ (v46 : Int32) (v47 : Int32) (v48 : Int32) (v49 : Int32) (z51 : St), K42 v46 v47 v48 v49 ((0 : Int32)) z51 → K50 v46 v47 v48 v49 z51) → (((¬ (gI z34 39) = ((2 : Int32))) → K50 v12 r17 x36 ((0 : Int32)) z34) ∧ ((gI z34 39) = ((2 : Int32)) → (((0 < (lg_cmp (gJ z34 40) ((15 : Int64)))) → K50 v12 r17 x36 ((0 : Int32)) z34) ∧ (¬ (0 < (lg_cmp (gJ z34 40) ((15 : Int64)))) → ((((lg_cmp (gJ z34 40) (Int32.toInt64 r17)) = 0) → K50 v12 r17 x36 ((0 : Int32)) z34) ∧ (¬ ((lg_cmp (gJ z34 40) (Int32.toInt64 r17)) = 0) → K42 v12 r17 x36 ((0 : Int32)) ((1 : Int32)) z34)))))))))))))))) ∧ (v12 = 0 → (wp_X9_isWord ((102 : Int32)) ((114 : Int32)) ((111 : Int32)) ((109 : Int32)) ((0 : Int32)) ((0 : Int32)) z16 (fun r56 z55 => (wp_X9_must r56 z55 (fun z57 => (wp_X9_number ((23 : Int64)) z57 (fun r60 z59 => (wp_X9_isWord ((116 : Int32)) ((111 : Int32)) ((0 : Int32)) ((0 : Int32)) ((0 : Int32)) ((0 : Int32)) z59 (fun r62 z61 => (wp_X9_must r62 z61 (fun z63 => (wp_X9_number ((23 : Int64)) z63 (fun r66 z65 => K22 v12 r17 r60 r66 z65))))))))))))))))) → K14 v12 s13 z15) → (((¬ v6 = 0) → (((¬ v6 = ((1 : Int32))) → K14 v6 ((15 : Int64)) z10) ∧ (v6 = ((1 : Int32)) → K14 v6 ((10000 : Int64)) z10))) ∧ (v6 = 0 → K14 v6 ((3 : Int64)) z10))))) → K8 v6 s7 z9) → (∀ K70 : Int32 → St → Prop, (∀ (v69 : Int32) (z71 : St), K8 v69 ((0 : Int32)) z71 → K70 v69 z71) → (((s3 < 0) → K70 s3 z5) ∧ (¬ (s3 < 0) → (((((20 : Int32)) ≤ (gI z5 34)) → K70 s3 z5) ∧ (¬ (((20 : Int32)) ≤ (gI z5 34)) → K8 s3 ((1 : Int32)) z5)))))) → K4 s3 z5) → (((r2 = 0) → (wp_X9_isWord ((100 : Int32)) ((101 : Int32)) ((97 : Int32)) ((114 : Int32)) ((0 : Int32)) ((0 : Int32)) z1 (fun r76 z75 => (((r76 = 0) → (wp_X9_isWord ((106 : Int32)) ((111 : Int32)) ((98 : Int32)) ((0 : Int32)) ((0 : Int32)) ((0 : Int32)) z75 (fun r79 z78 => (((r79 = 0) → K4 ((-1 : Int32)) z78) ∧ (¬ (r79 = 0) → K4 ((2 : Int32)) z78))))) ∧ (¬ (r76 = 0) → K4 ((1 : Int32)) z75))))) ∧ (¬ (r2 = 0) → K4 ((0 : Int32)) z1)))))
set_option maxHeartbeats 4000000 in
set_option maxRecDepth 100000 in
theorem m_X9_readRule (l : Launch) (D : va_G) (t : Ty3) (a : Nat → Nat)  (z : St) (P : St → Prop) (hw : wp_X9_readRule z P) : CtV l D t yX9_readRule cX9_readRule 5 none 4 (wM t a) (wM t a z) [.ref (a 0)] P := by
  refine ctV_of (by decide) (Nat.le_of_ble_eq_true rfl) ?_
  intro p e s m args below meth c A ls C hr hlk h hl
  have hl : lv_has ls 5 [(0, .ref (a 0))] := hl
  unfold wp_X9_readRule at hw
  refine lv_aload_n (pc := 0) C.1 C.2.1 dX9_readRule_0 rfl (lv_at hl 0 rfl) ?_
  refine lv_bipush (v := 113) (pc := 1) C.1 C.2.1 dX9_readRule_1 (by decide) ?_
  refine lv_bipush (v := 117) (pc := 3) C.1 C.2.1 dX9_readRule_3 (by decide) ?_
  refine lv_bipush (v := 105) (pc := 5) C.1 C.2.1 dX9_readRule_5 (by decide) ?_
  refine lv_bipush (v := 101) (pc := 7) C.1 C.2.1 dX9_readRule_7 (by decide) ?_
  refine lv_bipush (v := 116) (pc := 9) C.1 C.2.1 dX9_readRule_9 (by decide) ?_
  refine lv_iconst (v := 0) (pc := 11) C.1 C.2.1 dX9_readRule_11 (by decide) ?_
  refine cl_vi (pc := 12) (As := [.int ((113 : Int32)), .int ((117 : Int32)), .int ((105 : Int32)), .int ((101 : Int32)), .int ((116 : Int32)), .int ((0 : Int32))]) (rest := []) C h (m_X9_isWord l D t a ((113 : Int32)) ((117 : Int32)) ((105 : Int32)) ((101 : Int32)) ((116 : Int32)) ((0 : Int32)) z _ hw) mw_X9_isWord lm_X9_284 md_X9_isWord rcM_0 ⟨by decide, by decide⟩ ⟨Nat.zero_le _, Nat.zero_le _⟩ hl.1 rfl (Nat.le_of_ble_eq_true rfl) dX9_readRule_12 (fun r2 z1 H locs hw h => ?_)
  have hw := hw (fun (s3 : Int32) (z5 : St) => ∀ (H : Heap) (locs : List Loc) (ls : Array Slot), wd D t A s (wM t a z5) H locs → lv_has ls 5 [(0, .ref (a 0))] → W p l e (rmd 4) s m args below meth c H locs 0 0 (QV D t A (wM t a) P below args s) (F0 m 64 ls [.int s3])) (by
      intro s3 z5 hw H locs ls h hl
      refine lv_istore_n (lv' := [(1, .int s3), (0, .ref (a 0))]) (pc := 64) C.1 C.2.1 dX9_readRule_64 rfl hl (by decide) rfl (fun ls hl => ?_)
      refine lv_aload_n (pc := 65) C.1 C.2.1 dX9_readRule_65 rfl (lv_at hl 1 rfl) ?_
      refine lv_iload_n (pc := 66) C.1 C.2.1 dX9_readRule_66 rfl (lv_at hl 0 rfl) ?_
      have hw := hw (fun (v6 : Int32) (s7 : Int32) (z9 : St) => ∀ (H : Heap) (locs : List Loc) (ls : Array Slot), wd D t A s (wM t a z9) H locs → lv_has ls 5 [(0, .ref (a 0)), (1, .int v6)] → W p l e (rmd 4) s m args below meth c H locs 0 0 (QV D t A (wM t a) P below args s) (F0 m 84 ls [.int s7, .ref (a 0)])) (by
          intro v6 s7 z9 hw H locs ls h hl
          refine cl_vv (pc := 84) (As := [.int s7]) (rest := []) C h (m_X9_must l D t a s7 z9 _ hw) mw_X9_must lm_X9_280 md_X9_must rcM_0 ⟨by decide, by decide⟩ ⟨Nat.zero_le _, Nat.zero_le _⟩ hl.1 rfl (Nat.le_of_ble_eq_true rfl) dX9_readRule_84 (fun z10 H locs hw h => ?_)
          refine lv_aload_n (pc := 87) C.1 C.2.1 dX9_readRule_87 rfl (lv_at hl 0 rfl) ?_
          refine lv_iload_n (pc := 88) C.1 C.2.1 dX9_readRule_88 rfl (lv_at hl 1 rfl) ?_
          have hw := hw (fun (v12 : Int32) (s13 : Int64) (z15 : St) => ∀ (H : Heap) (locs : List Loc) (ls : Array Slot), wd D t A s (wM t a z15) H locs → lv_has ls 5 [(0, .ref (a 0)), (1, .int v12)] → W p l e (rmd 4) s m args below meth c H locs 0 0 (QV D t A (wM t a) P below args s) (F0 m 112 ls [.long s13, .ref (a 0)])) (by
              intro v12 s13 z15 hw H locs ls h hl
              refine cl_vi (pc := 112) (As := [.long s13]) (rest := []) C h (m_X9_number l D t a s13 z15 _ hw) mw_X9_number lm_X9_295 md_X9_number rcM_0 ⟨by decide, by decide⟩ ⟨Nat.zero_le _, Nat.zero_le _⟩ hl.1 rfl (Nat.le_of_ble_eq_true rfl) dX9_readRule_112 (fun r17 z16 H locs hw h => ?_)
              refine lv_istore_n (lv' := [(2, .int r17), (0, .ref (a 0)), (1, .int v12)]) (pc := 115) C.1 C.2.1 dX9_readRule_115 rfl hl (by decide) rfl (fun ls hl => ?_)
              refine lv_iconst (v := 0) (pc := 116) C.1 C.2.1 dX9_readRule_116 (by decide) ?_
              refine lv_istore_n (lv' := [(3, .int ((0 : Int32))), (2, .int r17), (0, .ref (a 0)), (1, .int v12)]) (pc := 117) C.1 C.2.1 dX9_readRule_117 rfl hl (by decide) rfl (fun ls hl => ?_)
              refine lv_iconst (v := 0) (pc := 118) C.1 C.2.1 dX9_readRule_118 (by decide) ?_
              refine lv_istore (lv' := [(4, .int ((0 : Int32))), (3, .int ((0 : Int32))), (2, .int r17), (0, .ref (a 0)), (1, .int v12)]) (pc := 119) C.1 C.2.1 dX9_readRule_119 hl (by decide) rfl (fun ls hl => ?_)
              refine lv_iload_n (pc := 121) C.1 C.2.1 dX9_readRule_121 rfl (lv_at hl 4 rfl) ?_
              have hw := hw (fun (v18 : Int32) (v19 : Int32) (v20 : Int32) (v21 : Int32) (z23 : St) => ∀ (H : Heap) (locs : List Loc) (ls : Array Slot), wd D t A s (wM t a z23) H locs → lv_has ls 5 [(0, .ref (a 0)), (1, .int v18), (2, .int v19), (3, .int v20), (4, .int v21)] → W p l e (rmd 4) s m args below meth c H locs 0 0 (QV D t A (wM t a) P below args s) (F0 m 248 ls [])) (by
                  intro v18 v19 v20 v21 z23 hw H locs ls h hl
                  refine lv_aload_n (pc := 248) C.1 C.2.1 dX9_readRule_248 rfl (lv_at hl 0 rfl) ?_
                  refine GM_X9_274_0 (pc := 249) C h dX9_readRule_249 ?_
                  refine lv_if_eq (tgt := 256) (pc := 252) C.1 C.2.1 dX9_readRule_252 (by decide) (fun c24 => ?_) (fun c24 => ?_)
                  · have hw := hw.1 c24
                    refine lv_aload_n (pc := 256) C.1 C.2.1 dX9_readRule_256 rfl (lv_at hl 0 rfl) ?_
                    refine GM_X9_88_0 (pc := 257) C h dX9_readRule_257 ?_
                    refine lv_iconst (v := 4) (pc := 260) C.1 C.2.1 dX9_readRule_260 (by decide) ?_
                    refine lv_aload_n (pc := 261) C.1 C.2.1 dX9_readRule_261 rfl (lv_at hl 0 rfl) ?_
                    refine GM_X9_288_0 (pc := 262) C h dX9_readRule_262 ?_
                    refine lv_imul (pc := 265) C.1 C.2.1 dX9_readRule_265 ?_
                    refine lv_iload_n (pc := 266) C.1 C.2.1 dX9_readRule_266 rfl (lv_at hl 1 rfl) ?_
                    refine stM_24 (pc := 267) C h hw.1 dX9_readRule_267 (fun z25 ez25 H locs h => ?_)
                    have hw := hw.2 z25 ez25
                    refine lv_aload_n (pc := 268) C.1 C.2.1 dX9_readRule_268 rfl (lv_at hl 0 rfl) ?_
                    refine GM_X9_88_0 (pc := 269) C h dX9_readRule_269 ?_
                    refine lv_iconst (v := 4) (pc := 272) C.1 C.2.1 dX9_readRule_272 (by decide) ?_
                    refine lv_aload_n (pc := 273) C.1 C.2.1 dX9_readRule_273 rfl (lv_at hl 0 rfl) ?_
                    refine GM_X9_288_0 (pc := 274) C h dX9_readRule_274 ?_
                    refine lv_imul (pc := 277) C.1 C.2.1 dX9_readRule_277 ?_
                    refine lv_iconst (v := 1) (pc := 278) C.1 C.2.1 dX9_readRule_278 (by decide) ?_
                    refine lv_iadd (pc := 279) C.1 C.2.1 dX9_readRule_279 ?_
                    refine lv_iload_n (pc := 280) C.1 C.2.1 dX9_readRule_280 rfl (lv_at hl 2 rfl) ?_
                    refine stM_24 (pc := 281) C h hw.1 dX9_readRule_281 (fun z26 ez26 H locs h => ?_)
                    have hw := hw.2 z26 ez26
                    refine lv_aload_n (pc := 282) C.1 C.2.1 dX9_readRule_282 rfl (lv_at hl 0 rfl) ?_
                    refine GM_X9_88_0 (pc := 283) C h dX9_readRule_283 ?_
                    refine lv_iconst (v := 4) (pc := 286) C.1 C.2.1 dX9_readRule_286 (by decide) ?_
                    refine lv_aload_n (pc := 287) C.1 C.2.1 dX9_readRule_287 rfl (lv_at hl 0 rfl) ?_
                    refine GM_X9_288_0 (pc := 288) C h dX9_readRule_288 ?_
                    refine lv_imul (pc := 291) C.1 C.2.1 dX9_readRule_291 ?_
                    refine lv_iconst (v := 2) (pc := 292) C.1 C.2.1 dX9_readRule_292 (by decide) ?_
                    refine lv_iadd (pc := 293) C.1 C.2.1 dX9_readRule_293 ?_
                    refine lv_iload_n (pc := 294) C.1 C.2.1 dX9_readRule_294 rfl (lv_at hl 3 rfl) ?_
                    refine stM_24 (pc := 295) C h hw.1 dX9_readRule_295 (fun z27 ez27 H locs h => ?_)
                    have hw := hw.2 z27 ez27
                    refine lv_aload_n (pc := 296) C.1 C.2.1 dX9_readRule_296 rfl (lv_at hl 0 rfl) ?_
                    refine GM_X9_88_0 (pc := 297) C h dX9_readRule_297 ?_
                    refine lv_iconst (v := 4) (pc := 300) C.1 C.2.1 dX9_readRule_300 (by decide) ?_
                    refine lv_aload_n (pc := 301) C.1 C.2.1 dX9_readRule_301 rfl (lv_at hl 0 rfl) ?_
                    refine GM_X9_288_0 (pc := 302) C h dX9_readRule_302 ?_
                    refine lv_imul (pc := 305) C.1 C.2.1 dX9_readRule_305 ?_
                    refine lv_iconst (v := 3) (pc := 306) C.1 C.2.1 dX9_readRule_306 (by decide) ?_
                    refine lv_iadd (pc := 307) C.1 C.2.1 dX9_readRule_307 ?_
                    refine lv_iload (pc := 308) C.1 C.2.1 dX9_readRule_308 (lv_at hl 4 rfl) ?_
                    refine stM_24 (pc := 310) C h hw.1 dX9_readRule_310 (fun z28 ez28 H locs h => ?_)
                    have hw := hw.2 z28 ez28
                    refine lv_aload_n (pc := 311) C.1 C.2.1 dX9_readRule_311 rfl (lv_at hl 0 rfl) ?_
                    refine lv_dup (pc := 312) C.1 C.2.1 dX9_readRule_312 rfl ?_
                    refine GM_X9_288_0 (pc := 313) C h dX9_readRule_313 ?_
                    refine lv_iconst (v := 1) (pc := 316) C.1 C.2.1 dX9_readRule_316 (by decide) ?_
                    refine lv_iadd (pc := 317) C.1 C.2.1 dX9_readRule_317 ?_
                    refine PM_X9_288_0 (pc := 318) C h dX9_readRule_318 (fun z29 ez29 H locs h => ?_)
                    have hw := hw z29 ez29
                    exact rt_v (pc := 321) C hr hlk h hw dX9_readRule_321
                  · have hw := hw.2 c24
                    exact rt_v (pc := 255) C hr hlk h hw dX9_readRule_255)
              refine lv_if_ne (tgt := 179) (pc := 122) C.1 C.2.1 dX9_readRule_122 (by decide) (fun c30 => ?_) (fun c30 => ?_)
              · have hw := hw.1 c30
                refine lv_iload_n (pc := 179) C.1 C.2.1 dX9_readRule_179 rfl (lv_at hl 4 rfl) ?_
                refine lv_iconst (v := 2) (pc := 180) C.1 C.2.1 dX9_readRule_180 (by decide) ?_
                refine lv_icmp_ne (tgt := 248) (pc := 181) C.1 C.2.1 dX9_readRule_181 (by decide) (fun c31 => ?_) (fun c31 => ?_)
                · have hw := hw.1 c31
                  exact hw _ _ _ h (lv_sub hl [3, 4, 2, 1, 0] rfl)
                · have hw := hw.2 c31
                  refine lv_aload_n (pc := 184) C.1 C.2.1 dX9_readRule_184 rfl (lv_at hl 3 rfl) ?_
                  refine lv_aload_n (pc := 185) C.1 C.2.1 dX9_readRule_185 rfl (lv_at hl 3 rfl) ?_
                  refine lv_bipush (v := 98) (pc := 186) C.1 C.2.1 dX9_readRule_186 (by decide) ?_
                  refine lv_bipush (v := 101) (pc := 188) C.1 C.2.1 dX9_readRule_188 (by decide) ?_
                  refine lv_bipush (v := 102) (pc := 190) C.1 C.2.1 dX9_readRule_190 (by decide) ?_
                  refine lv_bipush (v := 111) (pc := 192) C.1 C.2.1 dX9_readRule_192 (by decide) ?_
                  refine lv_bipush (v := 114) (pc := 194) C.1 C.2.1 dX9_readRule_194 (by decide) ?_
                  refine lv_bipush (v := 101) (pc := 196) C.1 C.2.1 dX9_readRule_196 (by decide) ?_
                  refine cl_vi (pc := 198) (As := [.int ((98 : Int32)), .int ((101 : Int32)), .int ((102 : Int32)), .int ((111 : Int32)), .int ((114 : Int32)), .int ((101 : Int32))]) (rest := [.ref (a 0)]) C h (m_X9_isWord l D t a ((98 : Int32)) ((101 : Int32)) ((102 : Int32)) ((111 : Int32)) ((114 : Int32)) ((101 : Int32)) z16 _ hw) mw_X9_isWord lm_X9_284 md_X9_isWord rcM_0 ⟨by decide, by decide⟩ ⟨Nat.zero_le _, Nat.zero_le _⟩ hl.1 rfl (Nat.le_of_ble_eq_true rfl) dX9_readRule_198 (fun r33 z32 H locs hw h => ?_)
                  refine cl_vv (pc := 201) (As := [.int r33]) (rest := []) C h (m_X9_must l D t a r33 z32 _ hw) mw_X9_must lm_X9_280 md_X9_must rcM_0 ⟨by decide, by decide⟩ ⟨Nat.zero_le _, Nat.zero_le _⟩ hl.1 rfl (Nat.le_of_ble_eq_true rfl) dX9_readRule_201 (fun z34 H locs hw h => ?_)
                  refine lv_aload_n (pc := 204) C.1 C.2.1 dX9_readRule_204 rfl (lv_at hl 3 rfl) ?_
                  refine GM_X9_255_0 (pc := 205) C h dX9_readRule_205 ?_
                  refine lv_l2i (pc := 208) C.1 C.2.1 dX9_readRule_208 rfl ?_
                  refine lv_topi (fun x36 ex36 => ?_)
                  have hw := hw x36 ex36
                  refine lv_istore_n (lv' := [(3, .int x36), (4, .int ((0 : Int32))), (2, .int r17), (0, .ref (a 0)), (1, .int v12)]) (pc := 209) C.1 C.2.1 dX9_readRule_209 rfl hl (by decide) rfl (fun ls hl => ?_)
                  refine lv_aload_n (pc := 210) C.1 C.2.1 dX9_readRule_210 rfl (lv_at hl 3 rfl) ?_
                  refine lv_aload_n (pc := 211) C.1 C.2.1 dX9_readRule_211 rfl (lv_at hl 3 rfl) ?_
                  refine GM_X9_265_0 (pc := 212) C h dX9_readRule_212 ?_
                  refine lv_iconst (v := 2) (pc := 215) C.1 C.2.1 dX9_readRule_215 (by decide) ?_
                  have hw := hw (fun (v37 : Int32) (v38 : Int32) (v39 : Int32) (v40 : Int32) (s41 : Int32) (z43 : St) => ∀ (H : Heap) (locs : List Loc) (ls : Array Slot), wd D t A s (wM t a z43) H locs → lv_has ls 5 [(0, .ref (a 0)), (1, .int v37), (2, .int v38), (3, .int v39), (4, .int v40)] → W p l e (rmd 4) s m args below meth c H locs 0 0 (QV D t A (wM t a) P below args s) (F0 m 245 ls [.int s41, .ref (a 0)])) (by
                      intro v37 v38 v39 v40 s41 z43 hw H locs ls h hl
                      refine cl_vv (pc := 245) (As := [.int s41]) (rest := []) C h (m_X9_must l D t a s41 z43 _ hw) mw_X9_must lm_X9_280 md_X9_must rcM_0 ⟨by decide, by decide⟩ ⟨Nat.zero_le _, Nat.zero_le _⟩ hl.1 rfl (Nat.le_of_ble_eq_true rfl) dX9_readRule_245 (fun z44 H locs hw h => ?_)
                      exact hw _ _ _ h (lv_sub hl [0, 1, 2, 3, 4] rfl))
                  have hw := hw (fun (v46 : Int32) (v47 : Int32) (v48 : Int32) (v49 : Int32) (z51 : St) => ∀ (H : Heap) (locs : List Loc) (ls : Array Slot), wd D t A s (wM t a z51) H locs → lv_has ls 5 [(0, .ref (a 0)), (1, .int v46), (2, .int v47), (3, .int v48), (4, .int v49)] → W p l e (rmd 4) s m args below meth c H locs 0 0 (QV D t A (wM t a) P below args s) (F0 m 244 ls [.ref (a 0)])) (by
                      intro v46 v47 v48 v49 z51 hw H locs ls h hl
                      refine lv_iconst (v := 0) (pc := 244) C.1 C.2.1 dX9_readRule_244 (by decide) ?_
                      exact hw _ _ _ h (lv_sub hl [0, 1, 2, 3, 4] rfl))
                  refine lv_icmp_ne (tgt := 244) (pc := 216) C.1 C.2.1 dX9_readRule_216 (by decide) (fun c52 => ?_) (fun c52 => ?_)
                  · have hw := hw.1 c52
                    exact hw _ _ _ h (lv_sub hl [3, 4, 2, 0, 1] rfl)
                  · have hw := hw.2 c52
                    refine lv_aload_n (pc := 219) C.1 C.2.1 dX9_readRule_219 rfl (lv_at hl 3 rfl) ?_
                    refine GM_X9_255_0 (pc := 220) C h dX9_readRule_220 ?_
                    refine lv_ldc2 (pc := 223) C.1 C.2.1 C.2.2.2.1 (C.2.2.2.2 _ lc_X9_293) dX9_readRule_223 ?_
                    refine W.lcmp (pc := 226) C.1 C.2.1 dX9_readRule_226 ?_
                    refine lv_if_gt (tgt := 244) (pc := 227) C.1 C.2.1 dX9_readRule_227 (by decide) (fun c53 => ?_) (fun c53 => ?_)
                    · have hw := hw.1 c53
                      exact hw _ _ _ h (lv_sub hl [3, 4, 2, 0, 1] rfl)
                    · have hw := hw.2 c53
                      refine lv_aload_n (pc := 230) C.1 C.2.1 dX9_readRule_230 rfl (lv_at hl 3 rfl) ?_
                      refine GM_X9_255_0 (pc := 231) C h dX9_readRule_231 ?_
                      refine lv_iload_n (pc := 234) C.1 C.2.1 dX9_readRule_234 rfl (lv_at hl 2 rfl) ?_
                      refine lv_i2l (pc := 235) C.1 C.2.1 dX9_readRule_235 rfl ?_
                      refine W.lcmp (pc := 236) C.1 C.2.1 dX9_readRule_236 ?_
                      refine lv_if_eq (tgt := 244) (pc := 237) C.1 C.2.1 dX9_readRule_237 (by decide) (fun c54 => ?_) (fun c54 => ?_)
                      · have hw := hw.1 c54
                        exact hw _ _ _ h (lv_sub hl [3, 4, 2, 0, 1] rfl)
                      · have hw := hw.2 c54
                        refine lv_iconst (v := 1) (pc := 240) C.1 C.2.1 dX9_readRule_240 (by decide) ?_
                        refine lv_goto (tgt := 245) (pc := 241) C.1 C.2.1 dX9_readRule_241 (by decide) ?_
                        exact hw _ _ _ h (lv_sub hl [3, 4, 2, 0, 1] rfl)
              · have hw := hw.2 c30
                refine lv_aload_n (pc := 125) C.1 C.2.1 dX9_readRule_125 rfl (lv_at hl 3 rfl) ?_
                refine lv_aload_n (pc := 126) C.1 C.2.1 dX9_readRule_126 rfl (lv_at hl 3 rfl) ?_
                refine lv_bipush (v := 102) (pc := 127) C.1 C.2.1 dX9_readRule_127 (by decide) ?_
                refine lv_bipush (v := 114) (pc := 129) C.1 C.2.1 dX9_readRule_129 (by decide) ?_
                refine lv_bipush (v := 111) (pc := 131) C.1 C.2.1 dX9_readRule_131 (by decide) ?_
                refine lv_bipush (v := 109) (pc := 133) C.1 C.2.1 dX9_readRule_133 (by decide) ?_
                refine lv_iconst (v := 0) (pc := 135) C.1 C.2.1 dX9_readRule_135 (by decide) ?_
                refine lv_iconst (v := 0) (pc := 136) C.1 C.2.1 dX9_readRule_136 (by decide) ?_
                refine cl_vi (pc := 137) (As := [.int ((102 : Int32)), .int ((114 : Int32)), .int ((111 : Int32)), .int ((109 : Int32)), .int ((0 : Int32)), .int ((0 : Int32))]) (rest := [.ref (a 0)]) C h (m_X9_isWord l D t a ((102 : Int32)) ((114 : Int32)) ((111 : Int32)) ((109 : Int32)) ((0 : Int32)) ((0 : Int32)) z16 _ hw) mw_X9_isWord lm_X9_284 md_X9_isWord rcM_0 ⟨by decide, by decide⟩ ⟨Nat.zero_le _, Nat.zero_le _⟩ hl.1 rfl (Nat.le_of_ble_eq_true rfl) dX9_readRule_137 (fun r56 z55 H locs hw h => ?_)
                refine cl_vv (pc := 140) (As := [.int r56]) (rest := []) C h (m_X9_must l D t a r56 z55 _ hw) mw_X9_must lm_X9_280 md_X9_must rcM_0 ⟨by decide, by decide⟩ ⟨Nat.zero_le _, Nat.zero_le _⟩ hl.1 rfl (Nat.le_of_ble_eq_true rfl) dX9_readRule_140 (fun z57 H locs hw h => ?_)
                refine lv_aload_n (pc := 143) C.1 C.2.1 dX9_readRule_143 rfl (lv_at hl 3 rfl) ?_
                refine lv_ldc2 (pc := 144) C.1 C.2.1 C.2.2.2.1 (C.2.2.2.2 _ lc_X9_182) dX9_readRule_144 ?_
                refine cl_vi (pc := 147) (As := [.long ((23 : Int64))]) (rest := []) C h (m_X9_number l D t a ((23 : Int64)) z57 _ hw) mw_X9_number lm_X9_295 md_X9_number rcM_0 ⟨by decide, by decide⟩ ⟨Nat.zero_le _, Nat.zero_le _⟩ hl.1 rfl (Nat.le_of_ble_eq_true rfl) dX9_readRule_147 (fun r60 z59 H locs hw h => ?_)
                refine lv_istore_n (lv' := [(3, .int r60), (4, .int ((0 : Int32))), (2, .int r17), (0, .ref (a 0)), (1, .int v12)]) (pc := 150) C.1 C.2.1 dX9_readRule_150 rfl hl (by decide) rfl (fun ls hl => ?_)
                refine lv_aload_n (pc := 151) C.1 C.2.1 dX9_readRule_151 rfl (lv_at hl 3 rfl) ?_
                refine lv_aload_n (pc := 152) C.1 C.2.1 dX9_readRule_152 rfl (lv_at hl 3 rfl) ?_
                refine lv_bipush (v := 116) (pc := 153) C.1 C.2.1 dX9_readRule_153 (by decide) ?_
                refine lv_bipush (v := 111) (pc := 155) C.1 C.2.1 dX9_readRule_155 (by decide) ?_
                refine lv_iconst (v := 0) (pc := 157) C.1 C.2.1 dX9_readRule_157 (by decide) ?_
                refine lv_iconst (v := 0) (pc := 158) C.1 C.2.1 dX9_readRule_158 (by decide) ?_
                refine lv_iconst (v := 0) (pc := 159) C.1 C.2.1 dX9_readRule_159 (by decide) ?_
                refine lv_iconst (v := 0) (pc := 160) C.1 C.2.1 dX9_readRule_160 (by decide) ?_
                refine cl_vi (pc := 161) (As := [.int ((116 : Int32)), .int ((111 : Int32)), .int ((0 : Int32)), .int ((0 : Int32)), .int ((0 : Int32)), .int ((0 : Int32))]) (rest := [.ref (a 0)]) C h (m_X9_isWord l D t a ((116 : Int32)) ((111 : Int32)) ((0 : Int32)) ((0 : Int32)) ((0 : Int32)) ((0 : Int32)) z59 _ hw) mw_X9_isWord lm_X9_284 md_X9_isWord rcM_0 ⟨by decide, by decide⟩ ⟨Nat.zero_le _, Nat.zero_le _⟩ hl.1 rfl (Nat.le_of_ble_eq_true rfl) dX9_readRule_161 (fun r62 z61 H locs hw h => ?_)
                refine cl_vv (pc := 164) (As := [.int r62]) (rest := []) C h (m_X9_must l D t a r62 z61 _ hw) mw_X9_must lm_X9_280 md_X9_must rcM_0 ⟨by decide, by decide⟩ ⟨Nat.zero_le _, Nat.zero_le _⟩ hl.1 rfl (Nat.le_of_ble_eq_true rfl) dX9_readRule_164 (fun z63 H locs hw h => ?_)
                refine lv_aload_n (pc := 167) C.1 C.2.1 dX9_readRule_167 rfl (lv_at hl 3 rfl) ?_
                refine lv_ldc2 (pc := 168) C.1 C.2.1 C.2.2.2.1 (C.2.2.2.2 _ lc_X9_182) dX9_readRule_168 ?_
                refine cl_vi (pc := 171) (As := [.long ((23 : Int64))]) (rest := []) C h (m_X9_number l D t a ((23 : Int64)) z63 _ hw) mw_X9_number lm_X9_295 md_X9_number rcM_0 ⟨by decide, by decide⟩ ⟨Nat.zero_le _, Nat.zero_le _⟩ hl.1 rfl (Nat.le_of_ble_eq_true rfl) dX9_readRule_171 (fun r66 z65 H locs hw h => ?_)
                refine lv_istore (lv' := [(4, .int r66), (3, .int r60), (2, .int r17), (0, .ref (a 0)), (1, .int v12)]) (pc := 174) C.1 C.2.1 dX9_readRule_174 hl (by decide) rfl (fun ls hl => ?_)
                refine lv_goto (tgt := 248) (pc := 176) C.1 C.2.1 dX9_readRule_176 (by decide) ?_
                exact hw _ _ _ h (lv_sub hl [3, 4, 2, 1, 0] rfl))
          refine lv_if_ne (tgt := 98) (pc := 89) C.1 C.2.1 dX9_readRule_89 (by decide) (fun c67 => ?_) (fun c67 => ?_)
          · have hw := hw.1 c67
            refine lv_iload_n (pc := 98) C.1 C.2.1 dX9_readRule_98 rfl (lv_at hl 1 rfl) ?_
            refine lv_iconst (v := 1) (pc := 99) C.1 C.2.1 dX9_readRule_99 (by decide) ?_
            refine lv_icmp_ne (tgt := 109) (pc := 100) C.1 C.2.1 dX9_readRule_100 (by decide) (fun c68 => ?_) (fun c68 => ?_)
            · have hw := hw.1 c68
              refine lv_ldc2 (pc := 109) C.1 C.2.1 C.2.2.2.1 (C.2.2.2.2 _ lc_X9_293) dX9_readRule_109 ?_
              exact hw _ _ _ h (lv_sub hl [0, 1] rfl)
            · have hw := hw.2 c68
              refine lv_ldc2 (pc := 103) C.1 C.2.1 C.2.2.2.1 (C.2.2.2.2 _ lc_X9_157) dX9_readRule_103 ?_
              refine lv_goto (tgt := 112) (pc := 106) C.1 C.2.1 dX9_readRule_106 (by decide) ?_
              exact hw _ _ _ h (lv_sub hl [0, 1] rfl)
          · have hw := hw.2 c67
            refine lv_ldc2 (pc := 92) C.1 C.2.1 C.2.2.2.1 (C.2.2.2.2 _ lc_X9_291) dX9_readRule_92 ?_
            refine lv_goto (tgt := 112) (pc := 95) C.1 C.2.1 dX9_readRule_95 (by decide) ?_
            exact hw _ _ _ h (lv_sub hl [0, 1] rfl))
      have hw := hw (fun (v69 : Int32) (z71 : St) => ∀ (H : Heap) (locs : List Loc) (ls : Array Slot), wd D t A s (wM t a z71) H locs → lv_has ls 5 [(0, .ref (a 0)), (1, .int v69)] → W p l e (rmd 4) s m args below meth c H locs 0 0 (QV D t A (wM t a) P below args s) (F0 m 83 ls [.ref (a 0)])) (by
          intro v69 z71 hw H locs ls h hl
          refine lv_iconst (v := 0) (pc := 83) C.1 C.2.1 dX9_readRule_83 (by decide) ?_
          exact hw _ _ _ h (lv_sub hl [0, 1] rfl))
      refine lv_if_lt (tgt := 83) (pc := 67) C.1 C.2.1 dX9_readRule_67 (by decide) (fun c72 => ?_) (fun c72 => ?_)
      · have hw := hw.1 c72
        exact hw _ _ _ h (lv_sub hl [1, 0] rfl)
      · have hw := hw.2 c72
        refine lv_aload_n (pc := 70) C.1 C.2.1 dX9_readRule_70 rfl (lv_at hl 1 rfl) ?_
        refine GM_X9_288_0 (pc := 71) C h dX9_readRule_71 ?_
        refine lv_bipush (v := 20) (pc := 74) C.1 C.2.1 dX9_readRule_74 (by decide) ?_
        refine lv_icmp_ge (tgt := 83) (pc := 76) C.1 C.2.1 dX9_readRule_76 (by decide) (fun c73 => ?_) (fun c73 => ?_)
        · have hw := hw.1 c73
          exact hw _ _ _ h (lv_sub hl [1, 0] rfl)
        · have hw := hw.2 c73
          refine lv_iconst (v := 1) (pc := 79) C.1 C.2.1 dX9_readRule_79 (by decide) ?_
          refine lv_goto (tgt := 84) (pc := 80) C.1 C.2.1 dX9_readRule_80 (by decide) ?_
          exact hw _ _ _ h (lv_sub hl [1, 0] rfl))
  refine lv_if_eq (tgt := 22) (pc := 15) C.1 C.2.1 dX9_readRule_15 (by decide) (fun c74 => ?_) (fun c74 => ?_)
  · have hw := hw.1 c74
    refine lv_aload_n (pc := 22) C.1 C.2.1 dX9_readRule_22 rfl (lv_at hl 0 rfl) ?_
    refine lv_bipush (v := 100) (pc := 23) C.1 C.2.1 dX9_readRule_23 (by decide) ?_
    refine lv_bipush (v := 101) (pc := 25) C.1 C.2.1 dX9_readRule_25 (by decide) ?_
    refine lv_bipush (v := 97) (pc := 27) C.1 C.2.1 dX9_readRule_27 (by decide) ?_
    refine lv_bipush (v := 114) (pc := 29) C.1 C.2.1 dX9_readRule_29 (by decide) ?_
    refine lv_iconst (v := 0) (pc := 31) C.1 C.2.1 dX9_readRule_31 (by decide) ?_
    refine lv_iconst (v := 0) (pc := 32) C.1 C.2.1 dX9_readRule_32 (by decide) ?_
    refine cl_vi (pc := 33) (As := [.int ((100 : Int32)), .int ((101 : Int32)), .int ((97 : Int32)), .int ((114 : Int32)), .int ((0 : Int32)), .int ((0 : Int32))]) (rest := []) C h (m_X9_isWord l D t a ((100 : Int32)) ((101 : Int32)) ((97 : Int32)) ((114 : Int32)) ((0 : Int32)) ((0 : Int32)) z1 _ hw) mw_X9_isWord lm_X9_284 md_X9_isWord rcM_0 ⟨by decide, by decide⟩ ⟨Nat.zero_le _, Nat.zero_le _⟩ hl.1 rfl (Nat.le_of_ble_eq_true rfl) dX9_readRule_33 (fun r76 z75 H locs hw h => ?_)
    refine lv_if_eq (tgt := 43) (pc := 36) C.1 C.2.1 dX9_readRule_36 (by decide) (fun c77 => ?_) (fun c77 => ?_)
    · have hw := hw.1 c77
      refine lv_aload_n (pc := 43) C.1 C.2.1 dX9_readRule_43 rfl (lv_at hl 0 rfl) ?_
      refine lv_bipush (v := 106) (pc := 44) C.1 C.2.1 dX9_readRule_44 (by decide) ?_
      refine lv_bipush (v := 111) (pc := 46) C.1 C.2.1 dX9_readRule_46 (by decide) ?_
      refine lv_bipush (v := 98) (pc := 48) C.1 C.2.1 dX9_readRule_48 (by decide) ?_
      refine lv_iconst (v := 0) (pc := 50) C.1 C.2.1 dX9_readRule_50 (by decide) ?_
      refine lv_iconst (v := 0) (pc := 51) C.1 C.2.1 dX9_readRule_51 (by decide) ?_
      refine lv_iconst (v := 0) (pc := 52) C.1 C.2.1 dX9_readRule_52 (by decide) ?_
      refine cl_vi (pc := 53) (As := [.int ((106 : Int32)), .int ((111 : Int32)), .int ((98 : Int32)), .int ((0 : Int32)), .int ((0 : Int32)), .int ((0 : Int32))]) (rest := []) C h (m_X9_isWord l D t a ((106 : Int32)) ((111 : Int32)) ((98 : Int32)) ((0 : Int32)) ((0 : Int32)) ((0 : Int32)) z75 _ hw) mw_X9_isWord lm_X9_284 md_X9_isWord rcM_0 ⟨by decide, by decide⟩ ⟨Nat.zero_le _, Nat.zero_le _⟩ hl.1 rfl (Nat.le_of_ble_eq_true rfl) dX9_readRule_53 (fun r79 z78 H locs hw h => ?_)
      refine lv_if_eq (tgt := 63) (pc := 56) C.1 C.2.1 dX9_readRule_56 (by decide) (fun c80 => ?_) (fun c80 => ?_)
      · have hw := hw.1 c80
        refine lv_iconst (v := -1) (pc := 63) C.1 C.2.1 dX9_readRule_63 (by decide) ?_
        exact hw _ _ _ h (lv_sub hl [0] rfl)
      · have hw := hw.2 c80
        refine lv_iconst (v := 2) (pc := 59) C.1 C.2.1 dX9_readRule_59 (by decide) ?_
        refine lv_goto (tgt := 64) (pc := 60) C.1 C.2.1 dX9_readRule_60 (by decide) ?_
        exact hw _ _ _ h (lv_sub hl [0] rfl)
    · have hw := hw.2 c77
      refine lv_iconst (v := 1) (pc := 39) C.1 C.2.1 dX9_readRule_39 (by decide) ?_
      refine lv_goto (tgt := 64) (pc := 40) C.1 C.2.1 dX9_readRule_40 (by decide) ?_
      exact hw _ _ _ h (lv_sub hl [0] rfl)
  · have hw := hw.2 c74
    refine lv_iconst (v := 0) (pc := 18) C.1 C.2.1 dX9_readRule_18 (by decide) ?_
    refine lv_goto (tgt := 64) (pc := 19) C.1 C.2.1 dX9_readRule_19 (by decide) ?_
    exact hw _ _ _ h (lv_sub hl [0] rfl)

def wp_X9_rules  (z : St) (P : Int32 → St → Prop) : Prop :=
  (∀ z1 : St, z1 = wI z 0 ((0 : Int32)) → (∀ z2 : St, z2 = wI z1 38 ((0 : Int32)) → (∀ z3 : St, z3 = wI z2 42 ((0 : Int32)) → (∀ z4 : St, z4 = wI z3 41 ((-1 : Int32)) → (∀ z5 : St, z5 = wI z4 34 ((0 : Int32)) → (wp_X9_next z5 (fun z6 => (∀ K8 : St → Prop, (∀ (z9 : St), (∀ z10 : St, z10 = wI z9 36 ((0 : Int32)) → ((((gI z10 42) = 0) → (∀ z12 : St, z12 = wI z10 22 (gI z10 34) → (∀ K14 : Int32 → St → Prop, (∀ (v13 : Int32) (z15 : St), ((((gI z15 22) ≤ v13) → (wp_X9_told (gI z15 22) z15 (fun r18 z17 => P r18 z17))) ∧ (¬ ((gI z15 22) ≤ v13) → (vp_in (((4 : Int32)) * v13) 80 ∧ (vp_in v13 20 ∧ (∀ z19 : St, z19 = wR z15 14 (upd (gF z15 14) v13.toNatClampNeg (gF z15 24 (((4 : Int32)) * v13).toNatClampNeg)) → (vp_in ((((4 : Int32)) * v13) + ((1 : Int32))) 80 ∧ (vp_in v13 20 ∧ (∀ z20 : St, z20 = wR z19 15 (upd (gF z19 15) v13.toNatClampNeg (gF z19 24 ((((4 : Int32)) * v13) + ((1 : Int32))).toNatClampNeg)) → (vp_in ((((4 : Int32)) * v13) + ((2 : Int32))) 80 ∧ (vp_in v13 20 ∧ (∀ z21 : St, z21 = wR z20 16 (upd (gF z20 16) v13.toNatClampNeg (gF z20 24 ((((4 : Int32)) * v13) + ((2 : Int32))).toNatClampNeg)) → (vp_in ((((4 : Int32)) * v13) + ((3 : Int32))) 80 ∧ (vp_in v13 20 ∧ (∀ z22 : St, z22 = wR z21 17 (upd (gF z21 17) v13.toNatClampNeg (gF z21 24 ((((4 : Int32)) * v13) + ((3 : Int32))).toNatClampNeg)) → (∀ x23 : Int32, x23 = v13 + (1) → K14 x23 z22))))))))))))))) → K14 v13 z15) → K14 ((0 : Int32)) z12))) ∧ (¬ ((gI z10 42) = 0) → (wp_X9_told ((-6 : Int32)) z10 (fun r25 z24 => P r25 z24))))) → K8 z9) → ((((gI z6 39) = 0) → K8 z6) ∧ (¬ ((gI z6 39) = 0) → (∀ K27 : St → Prop, (∀ (z28 : St), (∀ K29 : St → Prop, (∀ (z30 : St), (((¬ (gI z30 42) = 0) → K8 z30) ∧ ((gI z30 42) = 0 → ((((gI z30 39) = 0) → K8 z30) ∧ (¬ ((gI z30 39) = 0) → (wp_X9_must ((0 : Int32)) z30 (fun z33 => K8 z33)))))) → K29 z30) → (((¬ (gI z28 42) = 0) → K29 z28) ∧ ((gI z28 42) = 0 → (((¬ (gI z28 39) = ((3 : Int32))) → K29 z28) ∧ ((gI z28 39) = ((3 : Int32)) → (((¬ (lg_cmp (gJ z28 40) ((59 : Int64))) = 0) → K29 z28) ∧ ((lg_cmp (gJ z28 40) ((59 : Int64))) = 0 → (wp_X9_next z28 (fun z38 => (wp_X9_readRule z38 (fun z40 => K27 z40))))))))))) → K27 z28) → (wp_X9_readRule z6 (fun z42 => K27 z42)))))))))))))
set_option maxHeartbeats 4000000 in
set_option maxRecDepth 100000 in
theorem m_X9_rules (l : Launch) (D : va_G) (t : Ty3) (a : Nat → Nat)  (z : St) (P : Int32 → St → Prop) (hw : wp_X9_rules z P) : CtI l D t yX9_rules cX9_rules 2 (some .int) 5 (wM t a) (wM t a z) [.ref (a 0)] P := by
  refine ctI_of (by decide) (Nat.le_of_ble_eq_true rfl) ?_
  intro p e s m args below meth c A ls C hr hlk h hl
  have hl : lv_has ls 2 [(0, .ref (a 0))] := hl
  unfold wp_X9_rules at hw
  refine lv_aload_n (pc := 0) C.1 C.2.1 dX9_rules_0 rfl (lv_at hl 0 rfl) ?_
  refine lv_iconst (v := 0) (pc := 1) C.1 C.2.1 dX9_rules_1 (by decide) ?_
  refine PM_X9_131_0 (pc := 2) C h dX9_rules_2 (fun z1 ez1 H locs h => ?_)
  have hw := hw z1 ez1
  refine lv_aload_n (pc := 5) C.1 C.2.1 dX9_rules_5 rfl (lv_at hl 0 rfl) ?_
  refine lv_iconst (v := 0) (pc := 6) C.1 C.2.1 dX9_rules_6 (by decide) ?_
  refine PM_X9_249_0 (pc := 7) C h dX9_rules_7 (fun z2 ez2 H locs h => ?_)
  have hw := hw z2 ez2
  refine lv_aload_n (pc := 10) C.1 C.2.1 dX9_rules_10 rfl (lv_at hl 0 rfl) ?_
  refine lv_iconst (v := 0) (pc := 11) C.1 C.2.1 dX9_rules_11 (by decide) ?_
  refine PM_X9_274_0 (pc := 12) C h (Or.inl rfl) dX9_rules_12 (fun z3 ez3 H locs h => ?_)
  have hw := hw z3 ez3
  refine lv_aload_n (pc := 15) C.1 C.2.1 dX9_rules_15 rfl (lv_at hl 0 rfl) ?_
  refine lv_iconst (v := -1) (pc := 16) C.1 C.2.1 dX9_rules_16 (by decide) ?_
  refine PM_X9_94_0 (pc := 17) C h dX9_rules_17 (fun z4 ez4 H locs h => ?_)
  have hw := hw z4 ez4
  refine lv_aload_n (pc := 20) C.1 C.2.1 dX9_rules_20 rfl (lv_at hl 0 rfl) ?_
  refine lv_iconst (v := 0) (pc := 21) C.1 C.2.1 dX9_rules_21 (by decide) ?_
  refine PM_X9_288_0 (pc := 22) C h dX9_rules_22 (fun z5 ez5 H locs h => ?_)
  have hw := hw z5 ez5
  refine lv_aload_n (pc := 25) C.1 C.2.1 dX9_rules_25 rfl (lv_at hl 0 rfl) ?_
  refine cl_vv (pc := 26) (As := []) (rest := []) C h (m_X9_next l D t a z5 _ hw) mw_X9_next lm_X9_277 md_X9_next rcM_0 ⟨by decide, by decide⟩ ⟨Nat.zero_le _, Nat.zero_le _⟩ hl.1 rfl (Nat.le_of_ble_eq_true rfl) dX9_rules_26 (fun z6 H locs hw h => ?_)
  refine lv_aload_n (pc := 29) C.1 C.2.1 dX9_rules_29 rfl (lv_at hl 0 rfl) ?_
  refine GM_X9_265_0 (pc := 30) C h dX9_rules_30 ?_
  have hw := hw (fun (z9 : St) => ∀ (H : Heap) (locs : List Loc) (ls : Array Slot), wd D t A s (wM t a z9) H locs → lv_has ls 2 [(0, .ref (a 0))] → W p l e (rmd 5) s m args below meth c H locs 0 0 (QI D t A (wM t a) P below args s) (F0 m 96 ls [])) (by
      intro z9 hw H locs ls h hl
      refine lv_aload_n (pc := 96) C.1 C.2.1 dX9_rules_96 rfl (lv_at hl 0 rfl) ?_
      refine lv_iconst (v := 0) (pc := 97) C.1 C.2.1 dX9_rules_97 (by decide) ?_
      refine PM_X9_243_0 (pc := 98) C h dX9_rules_98 (fun z10 ez10 H locs h => ?_)
      have hw := hw z10 ez10
      refine lv_aload_n (pc := 101) C.1 C.2.1 dX9_rules_101 rfl (lv_at hl 0 rfl) ?_
      refine GM_X9_274_0 (pc := 102) C h dX9_rules_102 ?_
      refine lv_if_eq (tgt := 115) (pc := 105) C.1 C.2.1 dX9_rules_105 (by decide) (fun c11 => ?_) (fun c11 => ?_)
      · have hw := hw.1 c11
        refine lv_aload_n (pc := 115) C.1 C.2.1 dX9_rules_115 rfl (lv_at hl 0 rfl) ?_
        refine lv_aload_n (pc := 116) C.1 C.2.1 dX9_rules_116 rfl (lv_at hl 0 rfl) ?_
        refine GM_X9_288_0 (pc := 117) C h dX9_rules_117 ?_
        refine PM_X9_207_0 (pc := 120) C h dX9_rules_120 (fun z12 ez12 H locs h => ?_)
        have hw := hw z12 ez12
        refine lv_iconst (v := 0) (pc := 123) C.1 C.2.1 dX9_rules_123 (by decide) ?_
        have hw := hw (fun (v13 : Int32) (z15 : St) => ∀ (H : Heap) (locs : List Loc) (ls : Array Slot), wd D t A s (wM t a z15) H locs → lv_has ls 2 [(0, .ref (a 0)), (1, .int v13)] → W p l e (rmd 5) s m args below meth c H locs 0 0 (QI D t A (wM t a) P below args s) (F0 m 125 ls [])) (by
            intro v13 z15 hw H locs ls h hl
            refine lv_iload_n (pc := 125) C.1 C.2.1 dX9_rules_125 rfl (lv_at hl 1 rfl) ?_
            refine lv_aload_n (pc := 126) C.1 C.2.1 dX9_rules_126 rfl (lv_at hl 0 rfl) ?_
            refine GM_X9_207_0 (pc := 127) C h dX9_rules_127 ?_
            refine lv_icmp_ge (tgt := 201) (pc := 130) C.1 C.2.1 dX9_rules_130 (by decide) (fun c16 => ?_) (fun c16 => ?_)
            · have hw := hw.1 c16
              refine lv_aload_n (pc := 201) C.1 C.2.1 dX9_rules_201 rfl (lv_at hl 0 rfl) ?_
              refine lv_aload_n (pc := 202) C.1 C.2.1 dX9_rules_202 rfl (lv_at hl 0 rfl) ?_
              refine GM_X9_207_0 (pc := 203) C h dX9_rules_203 ?_
              refine cl_vi (pc := 206) (As := [.int (gI z15 22)]) (rest := []) C h (m_X9_told l D t a (gI z15 22) z15 _ hw) mw_X9_told lm_X9_162 md_X9_told rcM_0 ⟨by decide, by decide⟩ ⟨Nat.zero_le _, Nat.zero_le _⟩ hl.1 rfl (Nat.le_of_ble_eq_true rfl) dX9_rules_206 (fun r18 z17 H locs hw h => ?_)
              exact rt_i (pc := 209) C hr hlk h hw dX9_rules_209
            · have hw := hw.2 c16
              refine lv_aload_n (pc := 133) C.1 C.2.1 dX9_rules_133 rfl (lv_at hl 0 rfl) ?_
              refine GM_X9_57_0 (pc := 134) C h dX9_rules_134 ?_
              refine lv_iload_n (pc := 137) C.1 C.2.1 dX9_rules_137 rfl (lv_at hl 1 rfl) ?_
              refine lv_aload_n (pc := 138) C.1 C.2.1 dX9_rules_138 rfl (lv_at hl 0 rfl) ?_
              refine GM_X9_88_0 (pc := 139) C h dX9_rules_139 ?_
              refine lv_iconst (v := 4) (pc := 142) C.1 C.2.1 dX9_rules_142 (by decide) ?_
              refine lv_iload_n (pc := 143) C.1 C.2.1 dX9_rules_143 rfl (lv_at hl 1 rfl) ?_
              refine lv_imul (pc := 144) C.1 C.2.1 dX9_rules_144 ?_
              refine ldM_24 (pc := 145) C h hw.1 dX9_rules_145 ?_
              have hw := hw.2
              refine stM_14 (pc := 146) C h hw.1 dX9_rules_146 (fun z19 ez19 H locs h => ?_)
              have hw := hw.2 z19 ez19
              refine lv_aload_n (pc := 147) C.1 C.2.1 dX9_rules_147 rfl (lv_at hl 0 rfl) ?_
              refine GM_X9_60_0 (pc := 148) C h dX9_rules_148 ?_
              refine lv_iload_n (pc := 151) C.1 C.2.1 dX9_rules_151 rfl (lv_at hl 1 rfl) ?_
              refine lv_aload_n (pc := 152) C.1 C.2.1 dX9_rules_152 rfl (lv_at hl 0 rfl) ?_
              refine GM_X9_88_0 (pc := 153) C h dX9_rules_153 ?_
              refine lv_iconst (v := 4) (pc := 156) C.1 C.2.1 dX9_rules_156 (by decide) ?_
              refine lv_iload_n (pc := 157) C.1 C.2.1 dX9_rules_157 rfl (lv_at hl 1 rfl) ?_
              refine lv_imul (pc := 158) C.1 C.2.1 dX9_rules_158 ?_
              refine lv_iconst (v := 1) (pc := 159) C.1 C.2.1 dX9_rules_159 (by decide) ?_
              refine lv_iadd (pc := 160) C.1 C.2.1 dX9_rules_160 ?_
              refine ldM_24 (pc := 161) C h hw.1 dX9_rules_161 ?_
              have hw := hw.2
              refine stM_15 (pc := 162) C h hw.1 dX9_rules_162 (fun z20 ez20 H locs h => ?_)
              have hw := hw.2 z20 ez20
              refine lv_aload_n (pc := 163) C.1 C.2.1 dX9_rules_163 rfl (lv_at hl 0 rfl) ?_
              refine GM_X9_63_0 (pc := 164) C h dX9_rules_164 ?_
              refine lv_iload_n (pc := 167) C.1 C.2.1 dX9_rules_167 rfl (lv_at hl 1 rfl) ?_
              refine lv_aload_n (pc := 168) C.1 C.2.1 dX9_rules_168 rfl (lv_at hl 0 rfl) ?_
              refine GM_X9_88_0 (pc := 169) C h dX9_rules_169 ?_
              refine lv_iconst (v := 4) (pc := 172) C.1 C.2.1 dX9_rules_172 (by decide) ?_
              refine lv_iload_n (pc := 173) C.1 C.2.1 dX9_rules_173 rfl (lv_at hl 1 rfl) ?_
              refine lv_imul (pc := 174) C.1 C.2.1 dX9_rules_174 ?_
              refine lv_iconst (v := 2) (pc := 175) C.1 C.2.1 dX9_rules_175 (by decide) ?_
              refine lv_iadd (pc := 176) C.1 C.2.1 dX9_rules_176 ?_
              refine ldM_24 (pc := 177) C h hw.1 dX9_rules_177 ?_
              have hw := hw.2
              refine stM_16 (pc := 178) C h hw.1 dX9_rules_178 (fun z21 ez21 H locs h => ?_)
              have hw := hw.2 z21 ez21
              refine lv_aload_n (pc := 179) C.1 C.2.1 dX9_rules_179 rfl (lv_at hl 0 rfl) ?_
              refine GM_X9_66_0 (pc := 180) C h dX9_rules_180 ?_
              refine lv_iload_n (pc := 183) C.1 C.2.1 dX9_rules_183 rfl (lv_at hl 1 rfl) ?_
              refine lv_aload_n (pc := 184) C.1 C.2.1 dX9_rules_184 rfl (lv_at hl 0 rfl) ?_
              refine GM_X9_88_0 (pc := 185) C h dX9_rules_185 ?_
              refine lv_iconst (v := 4) (pc := 188) C.1 C.2.1 dX9_rules_188 (by decide) ?_
              refine lv_iload_n (pc := 189) C.1 C.2.1 dX9_rules_189 rfl (lv_at hl 1 rfl) ?_
              refine lv_imul (pc := 190) C.1 C.2.1 dX9_rules_190 ?_
              refine lv_iconst (v := 3) (pc := 191) C.1 C.2.1 dX9_rules_191 (by decide) ?_
              refine lv_iadd (pc := 192) C.1 C.2.1 dX9_rules_192 ?_
              refine ldM_24 (pc := 193) C h hw.1 dX9_rules_193 ?_
              have hw := hw.2
              refine stM_17 (pc := 194) C h hw.1 dX9_rules_194 (fun z22 ez22 H locs h => ?_)
              have hw := hw.2 z22 ez22
              obtain ⟨x23, ex23⟩ : ∃ y : Int32, y = v13 + (1) := ⟨_, rfl⟩
              have hw := hw x23 ex23
              refine lv_iinc (v := x23) (lv' := [(1, .int x23), (0, .ref (a 0))]) (pc := 195) C.1 C.2.1 dX9_rules_195 hl (k := 1) rfl (by rw [ex23]; rfl) (by decide) rfl (fun ls hl => ?_)
              refine lv_goto (tgt := 125) (pc := 198) C.1 C.2.1 dX9_rules_198 (by decide) ?_
              exact hw _ _ _ h (lv_sub hl [1, 0] rfl))
        refine lv_istore_n (lv' := [(1, .int ((0 : Int32))), (0, .ref (a 0))]) (pc := 124) C.1 C.2.1 dX9_rules_124 rfl hl (by decide) rfl (fun ls hl => ?_)
        exact hw _ _ _ h (lv_sub hl [1, 0] rfl)
      · have hw := hw.2 c11
        refine lv_aload_n (pc := 108) C.1 C.2.1 dX9_rules_108 rfl (lv_at hl 0 rfl) ?_
        refine lv_bipush (v := -6) (pc := 109) C.1 C.2.1 dX9_rules_109 (by decide) ?_
        refine cl_vi (pc := 111) (As := [.int ((-6 : Int32))]) (rest := []) C h (m_X9_told l D t a ((-6 : Int32)) z10 _ hw) mw_X9_told lm_X9_162 md_X9_told rcM_0 ⟨by decide, by decide⟩ ⟨Nat.zero_le _, Nat.zero_le _⟩ hl.1 rfl (Nat.le_of_ble_eq_true rfl) dX9_rules_111 (fun r25 z24 H locs hw h => ?_)
        exact rt_i (pc := 114) C hr hlk h hw dX9_rules_114)
  refine lv_if_eq (tgt := 96) (pc := 33) C.1 C.2.1 dX9_rules_33 (by decide) (fun c26 => ?_) (fun c26 => ?_)
  · have hw := hw.1 c26
    exact hw _ _ _ h (lv_sub hl [0] rfl)
  · have hw := hw.2 c26
    refine lv_aload_n (pc := 36) C.1 C.2.1 dX9_rules_36 rfl (lv_at hl 0 rfl) ?_
    have hw := hw (fun (z28 : St) => ∀ (H : Heap) (locs : List Loc) (ls : Array Slot), wd D t A s (wM t a z28) H locs → lv_has ls 2 [(0, .ref (a 0))] → W p l e (rmd 5) s m args below meth c H locs 0 0 (QI D t A (wM t a) P below args s) (F0 m 40 ls [])) (by
        intro z28 hw H locs ls h hl
        refine lv_aload_n (pc := 40) C.1 C.2.1 dX9_rules_40 rfl (lv_at hl 0 rfl) ?_
        refine GM_X9_274_0 (pc := 41) C h dX9_rules_41 ?_
        have hw := hw (fun (z30 : St) => ∀ (H : Heap) (locs : List Loc) (ls : Array Slot), wd D t A s (wM t a z30) H locs → lv_has ls 2 [(0, .ref (a 0))] → W p l e (rmd 5) s m args below meth c H locs 0 0 (QI D t A (wM t a) P below args s) (F0 m 77 ls [])) (by
            intro z30 hw H locs ls h hl
            refine lv_aload_n (pc := 77) C.1 C.2.1 dX9_rules_77 rfl (lv_at hl 0 rfl) ?_
            refine GM_X9_274_0 (pc := 78) C h dX9_rules_78 ?_
            refine lv_if_ne (tgt := 96) (pc := 81) C.1 C.2.1 dX9_rules_81 (by decide) (fun c31 => ?_) (fun c31 => ?_)
            · have hw := hw.1 c31
              exact hw _ _ _ h (lv_sub hl [0] rfl)
            · have hw := hw.2 c31
              refine lv_aload_n (pc := 84) C.1 C.2.1 dX9_rules_84 rfl (lv_at hl 0 rfl) ?_
              refine GM_X9_265_0 (pc := 85) C h dX9_rules_85 ?_
              refine lv_if_eq (tgt := 96) (pc := 88) C.1 C.2.1 dX9_rules_88 (by decide) (fun c32 => ?_) (fun c32 => ?_)
              · have hw := hw.1 c32
                exact hw _ _ _ h (lv_sub hl [0] rfl)
              · have hw := hw.2 c32
                refine lv_aload_n (pc := 91) C.1 C.2.1 dX9_rules_91 rfl (lv_at hl 0 rfl) ?_
                refine lv_iconst (v := 0) (pc := 92) C.1 C.2.1 dX9_rules_92 (by decide) ?_
                refine cl_vv (pc := 93) (As := [.int ((0 : Int32))]) (rest := []) C h (m_X9_must l D t a ((0 : Int32)) z30 _ hw) mw_X9_must lm_X9_280 md_X9_must rcM_0 ⟨by decide, by decide⟩ ⟨Nat.zero_le _, Nat.zero_le _⟩ hl.1 rfl (Nat.le_of_ble_eq_true rfl) dX9_rules_93 (fun z33 H locs hw h => ?_)
                exact hw _ _ _ h (lv_sub hl [0] rfl))
        refine lv_if_ne (tgt := 77) (pc := 44) C.1 C.2.1 dX9_rules_44 (by decide) (fun c35 => ?_) (fun c35 => ?_)
        · have hw := hw.1 c35
          exact hw _ _ _ h (lv_sub hl [0] rfl)
        · have hw := hw.2 c35
          refine lv_aload_n (pc := 47) C.1 C.2.1 dX9_rules_47 rfl (lv_at hl 0 rfl) ?_
          refine GM_X9_265_0 (pc := 48) C h dX9_rules_48 ?_
          refine lv_iconst (v := 3) (pc := 51) C.1 C.2.1 dX9_rules_51 (by decide) ?_
          refine lv_icmp_ne (tgt := 77) (pc := 52) C.1 C.2.1 dX9_rules_52 (by decide) (fun c36 => ?_) (fun c36 => ?_)
          · have hw := hw.1 c36
            exact hw _ _ _ h (lv_sub hl [0] rfl)
          · have hw := hw.2 c36
            refine lv_aload_n (pc := 55) C.1 C.2.1 dX9_rules_55 rfl (lv_at hl 0 rfl) ?_
            refine GM_X9_255_0 (pc := 56) C h dX9_rules_56 ?_
            refine lv_ldc2 (pc := 59) C.1 C.2.1 C.2.2.2.1 (C.2.2.2.2 _ lc_X9_302) dX9_rules_59 ?_
            refine W.lcmp (pc := 62) C.1 C.2.1 dX9_rules_62 ?_
            refine lv_if_ne (tgt := 77) (pc := 63) C.1 C.2.1 dX9_rules_63 (by decide) (fun c37 => ?_) (fun c37 => ?_)
            · have hw := hw.1 c37
              exact hw _ _ _ h (lv_sub hl [0] rfl)
            · have hw := hw.2 c37
              refine lv_aload_n (pc := 66) C.1 C.2.1 dX9_rules_66 rfl (lv_at hl 0 rfl) ?_
              refine cl_vv (pc := 67) (As := []) (rest := []) C h (m_X9_next l D t a z28 _ hw) mw_X9_next lm_X9_277 md_X9_next rcM_0 ⟨by decide, by decide⟩ ⟨Nat.zero_le _, Nat.zero_le _⟩ hl.1 rfl (Nat.le_of_ble_eq_true rfl) dX9_rules_67 (fun z38 H locs hw h => ?_)
              refine lv_aload_n (pc := 70) C.1 C.2.1 dX9_rules_70 rfl (lv_at hl 0 rfl) ?_
              refine cl_vv (pc := 71) (As := []) (rest := []) C h (m_X9_readRule l D t a z38 _ hw) mw_X9_readRule lm_X9_299 md_X9_readRule rcM_0 ⟨by decide, by decide⟩ ⟨Nat.zero_le _, Nat.zero_le _⟩ hl.1 rfl (Nat.le_of_ble_eq_true rfl) dX9_rules_71 (fun z40 H locs hw h => ?_)
              refine lv_goto (tgt := 40) (pc := 74) C.1 C.2.1 dX9_rules_74 (by decide) ?_
              exact hw _ _ _ h (lv_sub hl [0] rfl))
    refine cl_vv (pc := 37) (As := []) (rest := []) C h (m_X9_readRule l D t a z6 _ hw) mw_X9_readRule lm_X9_299 md_X9_readRule rcM_0 ⟨by decide, by decide⟩ ⟨Nat.zero_le _, Nat.zero_le _⟩ hl.1 rfl (Nat.le_of_ble_eq_true rfl) dX9_rules_37 (fun z42 H locs hw h => ?_)
    exact hw _ _ _ h (lv_sub hl [0] rfl)

def wp_X9_fault  (z : St) (P : Int32 → St → Prop) : Prop :=
  (∀ z1 : St, z1 = wI z 0 ((0 : Int32)) → P (gI z1 41) z1)
set_option maxHeartbeats 4000000 in
set_option maxRecDepth 100000 in
theorem m_X9_fault (l : Launch) (D : va_G) (t : Ty3) (a : Nat → Nat)  (z : St) (P : Int32 → St → Prop) (hw : wp_X9_fault z P) : CtI l D t yX9_fault cX9_fault 1 (some .int) 0 (wM t a) (wM t a z) [.ref (a 0)] P := by
  refine ctI_of (by decide) (Nat.le_of_ble_eq_true rfl) ?_
  intro p e s m args below meth c A ls C hr hlk h hl
  have hl : lv_has ls 1 [(0, .ref (a 0))] := hl
  unfold wp_X9_fault at hw
  refine lv_aload_n (pc := 0) C.1 C.2.1 dX9_fault_0 rfl (lv_at hl 0 rfl) ?_
  refine lv_iconst (v := 0) (pc := 1) C.1 C.2.1 dX9_fault_1 (by decide) ?_
  refine PM_X9_131_0 (pc := 2) C h dX9_fault_2 (fun z1 ez1 H locs h => ?_)
  have hw := hw z1 ez1
  refine lv_aload_n (pc := 5) C.1 C.2.1 dX9_fault_5 rfl (lv_at hl 0 rfl) ?_
  refine GM_X9_94_0 (pc := 6) C h dX9_fault_6 ?_
  exact rt_i (pc := 9) C hr hlk h hw dX9_fault_9

def wp_X9_go (b1 : Int32) (z : St) (P : Int32 → St → Prop) : Prop :=
  (∀ z1 : St, z1 = wI z 0 ((0 : Int32)) → (wp_X9_in (Int32.toInt64 b1) ((1 : Int64)) ((48 : Int64)) z1 (fun r3 z2 => (∀ K4 : St → Prop, (∀ (z5 : St), (wp_X9_told ((-1 : Int32)) z5 (fun r7 z6 => P r7 z6)) → K4 z5) → (((r3 = 0) → K4 z2) ∧ (¬ (r3 = 0) → (((((gI z2 2) + b1) ≤ ((167 : Int32))) → (∀ K11 : Int32 → St → Prop, (∀ (v10 : Int32) (z12 : St), (((b1 ≤ v10) → (∀ z14 : St, z14 = wI z12 21 ((0 : Int32)) → (wp_X9_told (gI z14 2) z14 (fun r16 z15 => P r16 z15)))) ∧ (¬ (b1 ≤ v10) → (∀ K19 : Int32 → Int32 → St → Prop, (∀ (v17 : Int32) (v18 : Int32) (z20 : St), ((((gI z20 12) ≤ v18) → (∀ z22 : St, z22 = wI z20 2 ((gI z20 2) + ((1 : Int32))) → (∀ x23 : Int32, x23 = v17 + (1) → K11 x23 z22))) ∧ (¬ ((gI z20 12) ≤ v18) → (vp_in v18 16 ∧ (∀ K28 : Int32 → Int32 → Int32 → Int32 → St → Prop, (∀ (v24 : Int32) (v25 : Int32) (s26 : Int32) (s27 : Int32) (z29 : St), (vp_in s27 16 ∧ (∀ z30 : St, z30 = wR z29 11 (upd (gF z29 11) s27.toNatClampNeg s26) → (∀ x31 : Int32, x31 = v25 + (1) → K19 v24 x31 z30))) → K28 v24 v25 s26 s27 z29) → (∀ K35 : Int32 → Int32 → Int32 → St → Prop, (∀ (v32 : Int32) (v33 : Int32) (s34 : Int32) (z36 : St), (vp_in v33 16 ∧ K28 v32 v33 (gF z36 11 v33.toNatClampNeg) s34 z36) → K35 v32 v33 s34 z36) → (((¬ (gF z20 11 v18.toNatClampNeg) = ((1 : Int32))) → K35 v17 v18 v18 z20) ∧ ((gF z20 11 v18.toNatClampNeg) = ((1 : Int32)) → (vp_in v18 16 ∧ (((¬ (gF z20 12 v18.toNatClampNeg) = (gI z20 2)) → K35 v17 v18 v18 z20) ∧ ((gF z20 12 v18.toNatClampNeg) = (gI z20 2) → K28 v17 v18 ((2 : Int32)) v18 z20)))))))))) → K19 v17 v18 z20) → K19 v10 ((0 : Int32)) z12))) → K11 v10 z12) → K11 ((0 : Int32)) z2)) ∧ (¬ (((gI z2 2) + b1) ≤ ((167 : Int32))) → K4 z2))))))))
set_option maxHeartbeats 4000000 in
set_option maxRecDepth 100000 in
theorem m_X9_go (l : Launch) (D : va_G) (t : Ty3) (a : Nat → Nat) (b1 : Int32) (z : St) (P : Int32 → St → Prop) (hw : wp_X9_go b1 z P) : CtI l D t yX9_go cX9_go 4 (some .int) 1 (wM t a) (wM t a z) [.ref (a 0), .int b1] P := by
  refine ctI_of (by decide) (Nat.le_of_ble_eq_true rfl) ?_
  intro p e s m args below meth c A ls C hr hlk h hl
  have hl : lv_has ls 4 [(0, .ref (a 0)), (1, .int b1)] := hl
  unfold wp_X9_go at hw
  refine lv_aload_n (pc := 0) C.1 C.2.1 dX9_go_0 rfl (lv_at hl 0 rfl) ?_
  refine lv_iconst (v := 0) (pc := 1) C.1 C.2.1 dX9_go_1 (by decide) ?_
  refine PM_X9_131_0 (pc := 2) C h dX9_go_2 (fun z1 ez1 H locs h => ?_)
  have hw := hw z1 ez1
  refine lv_iload_n (pc := 5) C.1 C.2.1 dX9_go_5 rfl (lv_at hl 1 rfl) ?_
  refine lv_i2l (pc := 6) C.1 C.2.1 dX9_go_6 rfl ?_
  refine lv_lconst (v := 1) (pc := 7) C.1 C.2.1 dX9_go_7 (by decide) ?_
  refine lv_ldc2 (pc := 8) C.1 C.2.1 C.2.2.2.1 (C.2.2.2.2 _ lc_X9_241) dX9_go_8 ?_
  refine cl_si (pc := 11) (As := [.long (Int32.toInt64 b1), .long ((1 : Int64)), .long ((48 : Int64))]) (rest := []) C h (m_X9_in l D t a (Int32.toInt64 b1) ((1 : Int64)) ((48 : Int64)) z1 _ hw) mw_X9_in lm_X9_139 md_X9_in ⟨by decide, by decide⟩ ⟨Nat.zero_le _, Nat.zero_le _⟩ hl.1 rfl (Nat.le_of_ble_eq_true rfl) dX9_go_11 (fun r3 z2 H locs hw h => ?_)
  have hw := hw (fun (z5 : St) => ∀ (H : Heap) (locs : List Loc) (ls : Array Slot), wd D t A s (wM t a z5) H locs → lv_has ls 4 [(0, .ref (a 0))] → W p l e (rmd 1) s m args below meth c H locs 0 0 (QI D t A (wM t a) P below args s) (F0 m 29 ls [])) (by
      intro z5 hw H locs ls h hl
      refine lv_aload_n (pc := 29) C.1 C.2.1 dX9_go_29 rfl (lv_at hl 0 rfl) ?_
      refine lv_iconst (v := -1) (pc := 30) C.1 C.2.1 dX9_go_30 (by decide) ?_
      refine cl_vi (pc := 31) (As := [.int ((-1 : Int32))]) (rest := []) C h (m_X9_told l D t a ((-1 : Int32)) z5 _ hw) mw_X9_told lm_X9_162 md_X9_told rcM_0 ⟨by decide, by decide⟩ ⟨Nat.zero_le _, Nat.zero_le _⟩ hl.1 rfl (Nat.le_of_ble_eq_true rfl) dX9_go_31 (fun r7 z6 H locs hw h => ?_)
      exact rt_i (pc := 34) C hr hlk h hw dX9_go_34)
  refine lv_if_eq (tgt := 29) (pc := 14) C.1 C.2.1 dX9_go_14 (by decide) (fun c8 => ?_) (fun c8 => ?_)
  · have hw := hw.1 c8
    exact hw _ _ _ h (lv_sub hl [0] rfl)
  · have hw := hw.2 c8
    refine lv_aload_n (pc := 17) C.1 C.2.1 dX9_go_17 rfl (lv_at hl 0 rfl) ?_
    refine GM_X9_173_0 (pc := 18) C h dX9_go_18 ?_
    refine lv_iload_n (pc := 21) C.1 C.2.1 dX9_go_21 rfl (lv_at hl 1 rfl) ?_
    refine lv_iadd (pc := 22) C.1 C.2.1 dX9_go_22 ?_
    refine lv_sipush (v := 167) (pc := 23) C.1 C.2.1 dX9_go_23 (by decide) ?_
    refine lv_icmp_le (tgt := 35) (pc := 26) C.1 C.2.1 dX9_go_26 (by decide) (fun c9 => ?_) (fun c9 => ?_)
    · have hw := hw.1 c9
      refine lv_iconst (v := 0) (pc := 35) C.1 C.2.1 dX9_go_35 (by decide) ?_
      have hw := hw (fun (v10 : Int32) (z12 : St) => ∀ (H : Heap) (locs : List Loc) (ls : Array Slot), wd D t A s (wM t a z12) H locs → lv_has ls 4 [(0, .ref (a 0)), (1, .int b1), (2, .int v10)] → W p l e (rmd 1) s m args below meth c H locs 0 0 (QI D t A (wM t a) P below args s) (F0 m 37 ls [])) (by
          intro v10 z12 hw H locs ls h hl
          refine lv_iload_n (pc := 37) C.1 C.2.1 dX9_go_37 rfl (lv_at hl 2 rfl) ?_
          refine lv_iload_n (pc := 38) C.1 C.2.1 dX9_go_38 rfl (lv_at hl 1 rfl) ?_
          refine lv_icmp_ge (tgt := 113) (pc := 39) C.1 C.2.1 dX9_go_39 (by decide) (fun c13 => ?_) (fun c13 => ?_)
          · have hw := hw.1 c13
            refine lv_aload_n (pc := 113) C.1 C.2.1 dX9_go_113 rfl (lv_at hl 0 rfl) ?_
            refine lv_iconst (v := 0) (pc := 114) C.1 C.2.1 dX9_go_114 (by decide) ?_
            refine PM_X9_169_0 (pc := 115) C h (Or.inl rfl) dX9_go_115 (fun z14 ez14 H locs h => ?_)
            have hw := hw z14 ez14
            refine lv_aload_n (pc := 118) C.1 C.2.1 dX9_go_118 rfl (lv_at hl 0 rfl) ?_
            refine lv_aload_n (pc := 119) C.1 C.2.1 dX9_go_119 rfl (lv_at hl 0 rfl) ?_
            refine GM_X9_173_0 (pc := 120) C h dX9_go_120 ?_
            refine cl_vi (pc := 123) (As := [.int (gI z14 2)]) (rest := []) C h (m_X9_told l D t a (gI z14 2) z14 _ hw) mw_X9_told lm_X9_162 md_X9_told rcM_0 ⟨by decide, by decide⟩ ⟨Nat.zero_le _, Nat.zero_le _⟩ hl.1 rfl (Nat.le_of_ble_eq_true rfl) dX9_go_123 (fun r16 z15 H locs hw h => ?_)
            exact rt_i (pc := 126) C hr hlk h hw dX9_go_126
          · have hw := hw.2 c13
            refine lv_iconst (v := 0) (pc := 42) C.1 C.2.1 dX9_go_42 (by decide) ?_
            have hw := hw (fun (v17 : Int32) (v18 : Int32) (z20 : St) => ∀ (H : Heap) (locs : List Loc) (ls : Array Slot), wd D t A s (wM t a z20) H locs → lv_has ls 4 [(0, .ref (a 0)), (1, .int b1), (2, .int v17), (3, .int v18)] → W p l e (rmd 1) s m args below meth c H locs 0 0 (QI D t A (wM t a) P below args s) (F0 m 44 ls [])) (by
                intro v17 v18 z20 hw H locs ls h hl
                refine lv_iload_n (pc := 44) C.1 C.2.1 dX9_go_44 rfl (lv_at hl 3 rfl) ?_
                refine lv_aload_n (pc := 45) C.1 C.2.1 dX9_go_45 rfl (lv_at hl 0 rfl) ?_
                refine GM_X9_148_0 (pc := 46) C h dX9_go_46 ?_
                refine lv_icmp_ge (tgt := 97) (pc := 49) C.1 C.2.1 dX9_go_49 (by decide) (fun c21 => ?_) (fun c21 => ?_)
                · have hw := hw.1 c21
                  refine lv_aload_n (pc := 97) C.1 C.2.1 dX9_go_97 rfl (lv_at hl 0 rfl) ?_
                  refine lv_dup (pc := 98) C.1 C.2.1 dX9_go_98 rfl ?_
                  refine GM_X9_173_0 (pc := 99) C h dX9_go_99 ?_
                  refine lv_iconst (v := 1) (pc := 102) C.1 C.2.1 dX9_go_102 (by decide) ?_
                  refine lv_iadd (pc := 103) C.1 C.2.1 dX9_go_103 ?_
                  refine PM_X9_173_0 (pc := 104) C h dX9_go_104 (fun z22 ez22 H locs h => ?_)
                  have hw := hw z22 ez22
                  obtain ⟨x23, ex23⟩ : ∃ y : Int32, y = v17 + (1) := ⟨_, rfl⟩
                  have hw := hw x23 ex23
                  refine lv_iinc (v := x23) (lv' := [(2, .int x23), (0, .ref (a 0)), (1, .int b1), (3, .int v18)]) (pc := 107) C.1 C.2.1 dX9_go_107 hl (k := 2) rfl (by rw [ex23]; rfl) (by decide) rfl (fun ls hl => ?_)
                  refine lv_goto (tgt := 37) (pc := 110) C.1 C.2.1 dX9_go_110 (by decide) ?_
                  exact hw _ _ _ h (lv_sub hl [1, 2, 0] rfl)
                · have hw := hw.2 c21
                  refine lv_aload_n (pc := 52) C.1 C.2.1 dX9_go_52 rfl (lv_at hl 0 rfl) ?_
                  refine GM_X9_48_0 (pc := 53) C h dX9_go_53 ?_
                  refine lv_iload_n (pc := 56) C.1 C.2.1 dX9_go_56 rfl (lv_at hl 3 rfl) ?_
                  refine lv_aload_n (pc := 57) C.1 C.2.1 dX9_go_57 rfl (lv_at hl 0 rfl) ?_
                  refine GM_X9_48_0 (pc := 58) C h dX9_go_58 ?_
                  refine lv_iload_n (pc := 61) C.1 C.2.1 dX9_go_61 rfl (lv_at hl 3 rfl) ?_
                  refine ldM_11 (pc := 62) C h hw.1 dX9_go_62 ?_
                  have hw := hw.2
                  refine lv_iconst (v := 1) (pc := 63) C.1 C.2.1 dX9_go_63 (by decide) ?_
                  have hw := hw (fun (v24 : Int32) (v25 : Int32) (s26 : Int32) (s27 : Int32) (z29 : St) => ∀ (H : Heap) (locs : List Loc) (ls : Array Slot), wd D t A s (wM t a z29) H locs → lv_has ls 4 [(0, .ref (a 0)), (1, .int b1), (2, .int v24), (3, .int v25)] → W p l e (rmd 1) s m args below meth c H locs 0 0 (QI D t A (wM t a) P below args s) (F0 m 90 ls [.int s26, .int s27, .ref (a 11)])) (by
                      intro v24 v25 s26 s27 z29 hw H locs ls h hl
                      refine stM_11 (pc := 90) C h hw.1 dX9_go_90 (fun z30 ez30 H locs h => ?_)
                      have hw := hw.2 z30 ez30
                      obtain ⟨x31, ex31⟩ : ∃ y : Int32, y = v25 + (1) := ⟨_, rfl⟩
                      have hw := hw x31 ex31
                      refine lv_iinc (v := x31) (lv' := [(3, .int x31), (0, .ref (a 0)), (1, .int b1), (2, .int v24)]) (pc := 91) C.1 C.2.1 dX9_go_91 hl (k := 3) rfl (by rw [ex31]; rfl) (by decide) rfl (fun ls hl => ?_)
                      refine lv_goto (tgt := 44) (pc := 94) C.1 C.2.1 dX9_go_94 (by decide) ?_
                      exact hw _ _ _ h (lv_sub hl [1, 2, 3, 0] rfl))
                  have hw := hw (fun (v32 : Int32) (v33 : Int32) (s34 : Int32) (z36 : St) => ∀ (H : Heap) (locs : List Loc) (ls : Array Slot), wd D t A s (wM t a z36) H locs → lv_has ls 4 [(0, .ref (a 0)), (1, .int b1), (2, .int v32), (3, .int v33)] → W p l e (rmd 1) s m args below meth c H locs 0 0 (QI D t A (wM t a) P below args s) (F0 m 84 ls [.int s34, .ref (a 11)])) (by
                      intro v32 v33 s34 z36 hw H locs ls h hl
                      refine lv_aload_n (pc := 84) C.1 C.2.1 dX9_go_84 rfl (lv_at hl 0 rfl) ?_
                      refine GM_X9_48_0 (pc := 85) C h dX9_go_85 ?_
                      refine lv_iload_n (pc := 88) C.1 C.2.1 dX9_go_88 rfl (lv_at hl 3 rfl) ?_
                      refine ldM_11 (pc := 89) C h hw.1 dX9_go_89 ?_
                      have hw := hw.2
                      exact hw _ _ _ h (lv_sub hl [0, 1, 2, 3] rfl))
                  refine lv_icmp_ne (tgt := 84) (pc := 64) C.1 C.2.1 dX9_go_64 (by decide) (fun c37 => ?_) (fun c37 => ?_)
                  · have hw := hw.1 c37
                    exact hw _ _ _ h (lv_sub hl [0, 1, 2, 3] rfl)
                  · have hw := hw.2 c37
                    refine lv_aload_n (pc := 67) C.1 C.2.1 dX9_go_67 rfl (lv_at hl 0 rfl) ?_
                    refine GM_X9_51_0 (pc := 68) C h dX9_go_68 ?_
                    refine lv_iload_n (pc := 71) C.1 C.2.1 dX9_go_71 rfl (lv_at hl 3 rfl) ?_
                    refine ldM_12 (pc := 72) C h hw.1 dX9_go_72 ?_
                    have hw := hw.2
                    refine lv_aload_n (pc := 73) C.1 C.2.1 dX9_go_73 rfl (lv_at hl 0 rfl) ?_
                    refine GM_X9_173_0 (pc := 74) C h dX9_go_74 ?_
                    refine lv_icmp_ne (tgt := 84) (pc := 77) C.1 C.2.1 dX9_go_77 (by decide) (fun c38 => ?_) (fun c38 => ?_)
                    · have hw := hw.1 c38
                      exact hw _ _ _ h (lv_sub hl [0, 1, 2, 3] rfl)
                    · have hw := hw.2 c38
                      refine lv_iconst (v := 2) (pc := 80) C.1 C.2.1 dX9_go_80 (by decide) ?_
                      refine lv_goto (tgt := 90) (pc := 81) C.1 C.2.1 dX9_go_81 (by decide) ?_
                      exact hw _ _ _ h (lv_sub hl [0, 1, 2, 3] rfl))
            refine lv_istore_n (lv' := [(3, .int ((0 : Int32))), (0, .ref (a 0)), (1, .int b1), (2, .int v10)]) (pc := 43) C.1 C.2.1 dX9_go_43 rfl hl (by decide) rfl (fun ls hl => ?_)
            exact hw _ _ _ h (lv_sub hl [1, 2, 3, 0] rfl))
      refine lv_istore_n (lv' := [(2, .int ((0 : Int32))), (0, .ref (a 0)), (1, .int b1)]) (pc := 36) C.1 C.2.1 dX9_go_36 rfl hl (by decide) rfl (fun ls hl => ?_)
      exact hw _ _ _ h (lv_sub hl [1, 2, 0] rfl)
    · have hw := hw.2 c9
      exact hw _ _ _ h (lv_sub hl [0] rfl)

def wp_X9_load (b1 : Int32) (b2 : Int32) (z : St) (P : Int32 → St → Prop) : Prop :=
  (∀ z1 : St, z1 = wI z 0 ((0 : Int32)) → (wp_X9_isHome b1 z1 (fun r3 z2 => (((r3 = 0) → P ((-1 : Int32)) z2) ∧ (¬ (r3 = 0) → (wp_X9_isHour b2 z2 (fun r6 z5 => (((r6 = 0) → P ((-1 : Int32)) z5) ∧ (¬ (r6 = 0) → (wp_X9_loadOf b1 b2 ((-1 : Int32)) z5 (fun r9 z8 => P r9 z8)))))))))))
set_option maxHeartbeats 4000000 in
set_option maxRecDepth 100000 in
theorem m_X9_load (l : Launch) (D : va_G) (t : Ty3) (a : Nat → Nat) (b1 : Int32) (b2 : Int32) (z : St) (P : Int32 → St → Prop) (hw : wp_X9_load b1 b2 z P) : CtI l D t yX9_load cX9_load 3 (some .int) 3 (wM t a) (wM t a z) [.ref (a 0), .int b1, .int b2] P := by
  refine ctI_of (by decide) (Nat.le_of_ble_eq_true rfl) ?_
  intro p e s m args below meth c A ls C hr hlk h hl
  have hl : lv_has ls 3 [(0, .ref (a 0)), (1, .int b1), (2, .int b2)] := hl
  unfold wp_X9_load at hw
  refine lv_aload_n (pc := 0) C.1 C.2.1 dX9_load_0 rfl (lv_at hl 0 rfl) ?_
  refine lv_iconst (v := 0) (pc := 1) C.1 C.2.1 dX9_load_1 (by decide) ?_
  refine PM_X9_131_0 (pc := 2) C h dX9_load_2 (fun z1 ez1 H locs h => ?_)
  have hw := hw z1 ez1
  refine lv_aload_n (pc := 5) C.1 C.2.1 dX9_load_5 rfl (lv_at hl 0 rfl) ?_
  refine lv_iload_n (pc := 6) C.1 C.2.1 dX9_load_6 rfl (lv_at hl 1 rfl) ?_
  refine cl_vi (pc := 7) (As := [.int b1]) (rest := []) C h (m_X9_isHome l D t a b1 z1 _ hw) mw_X9_isHome lm_X9_186 md_X9_isHome rcM_0 ⟨by decide, by decide⟩ ⟨Nat.zero_le _, Nat.zero_le _⟩ hl.1 rfl (Nat.le_of_ble_eq_true rfl) dX9_load_7 (fun r3 z2 H locs hw h => ?_)
  refine lv_if_eq (tgt := 30) (pc := 10) C.1 C.2.1 dX9_load_10 (by decide) (fun c4 => ?_) (fun c4 => ?_)
  · have hw := hw.1 c4
    refine lv_iconst (v := -1) (pc := 30) C.1 C.2.1 dX9_load_30 (by decide) ?_
    exact rt_i (pc := 31) C hr hlk h hw dX9_load_31
  · have hw := hw.2 c4
    refine lv_iload_n (pc := 13) C.1 C.2.1 dX9_load_13 rfl (lv_at hl 2 rfl) ?_
    refine cl_si (pc := 14) (As := [.int b2]) (rest := []) C h (m_X9_isHour l D t a b2 z2 _ hw) mw_X9_isHour lm_X9_151 md_X9_isHour ⟨by decide, by decide⟩ ⟨Nat.zero_le _, Nat.zero_le _⟩ hl.1 rfl (Nat.le_of_ble_eq_true rfl) dX9_load_14 (fun r6 z5 H locs hw h => ?_)
    refine lv_if_eq (tgt := 30) (pc := 17) C.1 C.2.1 dX9_load_17 (by decide) (fun c7 => ?_) (fun c7 => ?_)
    · have hw := hw.1 c7
      refine lv_iconst (v := -1) (pc := 30) C.1 C.2.1 dX9_load_30 (by decide) ?_
      exact rt_i (pc := 31) C hr hlk h hw dX9_load_31
    · have hw := hw.2 c7
      refine lv_aload_n (pc := 20) C.1 C.2.1 dX9_load_20 rfl (lv_at hl 0 rfl) ?_
      refine lv_iload_n (pc := 21) C.1 C.2.1 dX9_load_21 rfl (lv_at hl 1 rfl) ?_
      refine lv_iload_n (pc := 22) C.1 C.2.1 dX9_load_22 rfl (lv_at hl 2 rfl) ?_
      refine lv_iconst (v := -1) (pc := 23) C.1 C.2.1 dX9_load_23 (by decide) ?_
      refine cl_vi (pc := 24) (As := [.int b1, .int b2, .int ((-1 : Int32))]) (rest := []) C h (m_X9_loadOf l D t a b1 b2 ((-1 : Int32)) z5 _ hw) mw_X9_loadOf lm_X9_203 md_X9_loadOf rcM_0 ⟨by decide, by decide⟩ ⟨Nat.zero_le _, Nat.zero_le _⟩ hl.1 rfl (Nat.le_of_ble_eq_true rfl) dX9_load_24 (fun r9 z8 H locs hw h => ?_)
      refine lv_goto (tgt := 31) (pc := 27) C.1 C.2.1 dX9_load_27 (by decide) ?_
      exact rt_i (pc := 31) C hr hlk h hw dX9_load_31

def wp_X9_cost (b1 : Int32) (b2 : Int32) (z : St) (P : Int64 → St → Prop) : Prop :=
  (∀ z1 : St, z1 = wI z 0 ((0 : Int32)) → (wp_X9_isJob b1 z1 (fun r3 z2 => (((r3 = 0) → P ((0 : Int64)) z2) ∧ (¬ (r3 = 0) → (vp_in b1 16 ∧ ((((gF z2 11 b1.toNatClampNeg) = 0) → P ((0 : Int64)) z2) ∧ (¬ ((gF z2 11 b1.toNatClampNeg) = 0) → (wp_X9_isKnown b2 z2 (fun r7 z6 => (((r7 = 0) → P ((0 : Int64)) z6) ∧ (¬ (r7 = 0) → (vp_in b1 16 ∧ (wp_X9_costAt b1 (gF z6 12 b1.toNatClampNeg) b2 z6 (fun r10 z9 => P r10 z9)))))))))))))))
set_option maxHeartbeats 4000000 in
set_option maxRecDepth 100000 in
theorem m_X9_cost (l : Launch) (D : va_G) (t : Ty3) (a : Nat → Nat) (b1 : Int32) (b2 : Int32) (z : St) (P : Int64 → St → Prop) (hw : wp_X9_cost b1 b2 z P) : CtL l D t yX9_cost cX9_cost 3 (some .long) 2 (wM t a) (wM t a z) [.ref (a 0), .int b1, .int b2] P := by
  refine ctL_of (by decide) (Nat.le_of_ble_eq_true rfl) ?_
  intro p e s m args below meth c A ls C hr hlk h hl
  have hl : lv_has ls 3 [(0, .ref (a 0)), (1, .int b1), (2, .int b2)] := hl
  unfold wp_X9_cost at hw
  refine lv_aload_n (pc := 0) C.1 C.2.1 dX9_cost_0 rfl (lv_at hl 0 rfl) ?_
  refine lv_iconst (v := 0) (pc := 1) C.1 C.2.1 dX9_cost_1 (by decide) ?_
  refine PM_X9_131_0 (pc := 2) C h dX9_cost_2 (fun z1 ez1 H locs h => ?_)
  have hw := hw z1 ez1
  refine lv_aload_n (pc := 5) C.1 C.2.1 dX9_cost_5 rfl (lv_at hl 0 rfl) ?_
  refine lv_iload_n (pc := 6) C.1 C.2.1 dX9_cost_6 rfl (lv_at hl 1 rfl) ?_
  refine cl_vi (pc := 7) (As := [.int b1]) (rest := []) C h (m_X9_isJob l D t a b1 z1 _ hw) mw_X9_isJob lm_X9_193 md_X9_isJob rcM_0 ⟨by decide, by decide⟩ ⟨Nat.zero_le _, Nat.zero_le _⟩ hl.1 rfl (Nat.le_of_ble_eq_true rfl) dX9_cost_7 (fun r3 z2 H locs hw h => ?_)
  refine lv_if_eq (tgt := 44) (pc := 10) C.1 C.2.1 dX9_cost_10 (by decide) (fun c4 => ?_) (fun c4 => ?_)
  · have hw := hw.1 c4
    refine lv_lconst (v := 0) (pc := 44) C.1 C.2.1 dX9_cost_44 (by decide) ?_
    exact rt_l (pc := 45) C hr hlk h hw dX9_cost_45
  · have hw := hw.2 c4
    refine lv_aload_n (pc := 13) C.1 C.2.1 dX9_cost_13 rfl (lv_at hl 0 rfl) ?_
    refine GM_X9_48_0 (pc := 14) C h dX9_cost_14 ?_
    refine lv_iload_n (pc := 17) C.1 C.2.1 dX9_cost_17 rfl (lv_at hl 1 rfl) ?_
    refine ldM_11 (pc := 18) C h hw.1 dX9_cost_18 ?_
    have hw := hw.2
    refine lv_if_eq (tgt := 44) (pc := 19) C.1 C.2.1 dX9_cost_19 (by decide) (fun c5 => ?_) (fun c5 => ?_)
    · have hw := hw.1 c5
      refine lv_lconst (v := 0) (pc := 44) C.1 C.2.1 dX9_cost_44 (by decide) ?_
      exact rt_l (pc := 45) C hr hlk h hw dX9_cost_45
    · have hw := hw.2 c5
      refine lv_iload_n (pc := 22) C.1 C.2.1 dX9_cost_22 rfl (lv_at hl 2 rfl) ?_
      refine cl_si (pc := 23) (As := [.int b2]) (rest := []) C h (m_X9_isKnown l D t a b2 z2 _ hw) mw_X9_isKnown lm_X9_159 md_X9_isKnown ⟨by decide, by decide⟩ ⟨Nat.zero_le _, Nat.zero_le _⟩ hl.1 rfl (Nat.le_of_ble_eq_true rfl) dX9_cost_23 (fun r7 z6 H locs hw h => ?_)
      refine lv_if_eq (tgt := 44) (pc := 26) C.1 C.2.1 dX9_cost_26 (by decide) (fun c8 => ?_) (fun c8 => ?_)
      · have hw := hw.1 c8
        refine lv_lconst (v := 0) (pc := 44) C.1 C.2.1 dX9_cost_44 (by decide) ?_
        exact rt_l (pc := 45) C hr hlk h hw dX9_cost_45
      · have hw := hw.2 c8
        refine lv_aload_n (pc := 29) C.1 C.2.1 dX9_cost_29 rfl (lv_at hl 0 rfl) ?_
        refine lv_iload_n (pc := 30) C.1 C.2.1 dX9_cost_30 rfl (lv_at hl 1 rfl) ?_
        refine lv_aload_n (pc := 31) C.1 C.2.1 dX9_cost_31 rfl (lv_at hl 0 rfl) ?_
        refine GM_X9_51_0 (pc := 32) C h dX9_cost_32 ?_
        refine lv_iload_n (pc := 35) C.1 C.2.1 dX9_cost_35 rfl (lv_at hl 1 rfl) ?_
        refine ldM_12 (pc := 36) C h hw.1 dX9_cost_36 ?_
        have hw := hw.2
        refine lv_iload_n (pc := 37) C.1 C.2.1 dX9_cost_37 rfl (lv_at hl 2 rfl) ?_
        refine cl_vl (pc := 38) (As := [.int b1, .int (gF z6 12 b1.toNatClampNeg), .int b2]) (rest := []) C h (m_X9_costAt l D t a b1 (gF z6 12 b1.toNatClampNeg) b2 z6 _ hw) mw_X9_costAt lm_X9_233 md_X9_costAt rcM_0 ⟨by decide, by decide⟩ ⟨Nat.zero_le _, Nat.zero_le _⟩ hl.1 rfl (Nat.le_of_ble_eq_true rfl) dX9_cost_38 (fun r10 z9 H locs hw h => ?_)
        refine lv_goto (tgt := 45) (pc := 41) C.1 C.2.1 dX9_cost_41 (by decide) ?_
        exact rt_l (pc := 45) C hr hlk h hw dX9_cost_45

def wp_X9_saved (b1 : Int32) (z : St) (P : Int64 → St → Prop) : Prop :=
  (∀ z1 : St, z1 = wI z 0 ((0 : Int32)) → (∀ K4 : Int64 → Int32 → St → Prop, (∀ (v2 : Int64) (v3 : Int32) (z5 : St), ((((gI z5 12) ≤ v3) → P v2 z5) ∧ (¬ ((gI z5 12) ≤ v3) → (wp_X9_isKnown b1 z5 (fun r8 z7 => (((r8 = 0) → P v2 z7) ∧ (¬ (r8 = 0) → (vp_in v3 16 ∧ (∀ K13 : Int32 → Int64 → Int64 → St → Prop, (∀ (v10 : Int32) (s11 : Int64) (s12 : Int64) (z14 : St), (∀ x15 : Int64, x15 = s12 + s11 → (∀ x16 : Int32, x16 = v10 + (1) → K4 x15 x16 z14)) → K13 v10 s11 s12 z14) → (((¬ (gF z7 11 v3.toNatClampNeg) = ((2 : Int32))) → K13 v3 ((0 : Int64)) v2 z7) ∧ ((gF z7 11 v3.toNatClampNeg) = ((2 : Int32)) → (vp_in v3 16 ∧ (wp_X9_costAt v3 (gF z7 7 v3.toNatClampNeg) b1 z7 (fun r19 z18 => (vp_in v3 16 ∧ (wp_X9_costAt v3 (gF z18 12 v3.toNatClampNeg) b1 z18 (fun r21 z20 => K13 v3 (r19 - r21) v2 z20)))))))))))))))) → K4 v2 v3 z5) → K4 ((0 : Int64)) ((0 : Int32)) z1))
set_option maxHeartbeats 4000000 in
set_option maxRecDepth 100000 in
theorem m_X9_saved (l : Launch) (D : va_G) (t : Ty3) (a : Nat → Nat) (b1 : Int32) (z : St) (P : Int64 → St → Prop) (hw : wp_X9_saved b1 z P) : CtL l D t yX9_saved cX9_saved 5 (some .long) 2 (wM t a) (wM t a z) [.ref (a 0), .int b1] P := by
  refine ctL_of (by decide) (Nat.le_of_ble_eq_true rfl) ?_
  intro p e s m args below meth c A ls C hr hlk h hl
  have hl : lv_has ls 5 [(0, .ref (a 0)), (1, .int b1)] := hl
  unfold wp_X9_saved at hw
  refine lv_aload_n (pc := 0) C.1 C.2.1 dX9_saved_0 rfl (lv_at hl 0 rfl) ?_
  refine lv_iconst (v := 0) (pc := 1) C.1 C.2.1 dX9_saved_1 (by decide) ?_
  refine PM_X9_131_0 (pc := 2) C h dX9_saved_2 (fun z1 ez1 H locs h => ?_)
  have hw := hw z1 ez1
  refine lv_lconst (v := 0) (pc := 5) C.1 C.2.1 dX9_saved_5 (by decide) ?_
  refine lv_lstore_n (lv' := [(2, .long ((0 : Int64))), (0, .ref (a 0)), (1, .int b1)]) (pc := 6) C.1 C.2.1 dX9_saved_6 rfl hl (by decide) rfl (fun ls hl => ?_)
  refine lv_iconst (v := 0) (pc := 7) C.1 C.2.1 dX9_saved_7 (by decide) ?_
  have hw := hw (fun (v2 : Int64) (v3 : Int32) (z5 : St) => ∀ (H : Heap) (locs : List Loc) (ls : Array Slot), wd D t A s (wM t a z5) H locs → lv_has ls 5 [(0, .ref (a 0)), (1, .int b1), (2, .long v2), (4, .int v3)] → W p l e (rmd 2) s m args below meth c H locs 0 0 (QL D t A (wM t a) P below args s) (F0 m 10 ls [])) (by
      intro v2 v3 z5 hw H locs ls h hl
      refine lv_iload (pc := 10) C.1 C.2.1 dX9_saved_10 (lv_at hl 3 rfl) ?_
      refine lv_aload_n (pc := 12) C.1 C.2.1 dX9_saved_12 rfl (lv_at hl 0 rfl) ?_
      refine GM_X9_148_0 (pc := 13) C h dX9_saved_13 ?_
      refine lv_icmp_ge (tgt := 79) (pc := 16) C.1 C.2.1 dX9_saved_16 (by decide) (fun c6 => ?_) (fun c6 => ?_)
      · have hw := hw.1 c6
        refine lv_lload_n (pc := 79) C.1 C.2.1 dX9_saved_79 rfl (lv_at hl 2 rfl) ?_
        exact rt_l (pc := 80) C hr hlk h hw dX9_saved_80
      · have hw := hw.2 c6
        refine lv_iload_n (pc := 19) C.1 C.2.1 dX9_saved_19 rfl (lv_at hl 1 rfl) ?_
        refine cl_si (pc := 20) (As := [.int b1]) (rest := []) C h (m_X9_isKnown l D t a b1 z5 _ hw) mw_X9_isKnown lm_X9_159 md_X9_isKnown ⟨by decide, by decide⟩ ⟨Nat.zero_le _, Nat.zero_le _⟩ hl.1 rfl (Nat.le_of_ble_eq_true rfl) dX9_saved_20 (fun r8 z7 H locs hw h => ?_)
        refine lv_if_eq (tgt := 79) (pc := 23) C.1 C.2.1 dX9_saved_23 (by decide) (fun c9 => ?_) (fun c9 => ?_)
        · have hw := hw.1 c9
          refine lv_lload_n (pc := 79) C.1 C.2.1 dX9_saved_79 rfl (lv_at hl 2 rfl) ?_
          exact rt_l (pc := 80) C hr hlk h hw dX9_saved_80
        · have hw := hw.2 c9
          refine lv_lload_n (pc := 26) C.1 C.2.1 dX9_saved_26 rfl (lv_at hl 2 rfl) ?_
          refine lv_aload_n (pc := 27) C.1 C.2.1 dX9_saved_27 rfl (lv_at hl 0 rfl) ?_
          refine GM_X9_48_0 (pc := 28) C h dX9_saved_28 ?_
          refine lv_iload (pc := 31) C.1 C.2.1 dX9_saved_31 (lv_at hl 3 rfl) ?_
          refine ldM_11 (pc := 33) C h hw.1 dX9_saved_33 ?_
          have hw := hw.2
          refine lv_iconst (v := 2) (pc := 34) C.1 C.2.1 dX9_saved_34 (by decide) ?_
          have hw := hw (fun (v10 : Int32) (s11 : Int64) (s12 : Int64) (z14 : St) => ∀ (H : Heap) (locs : List Loc) (ls : Array Slot), wd D t A s (wM t a z14) H locs → lv_has ls 5 [(0, .ref (a 0)), (1, .int b1), (4, .int v10)] → W p l e (rmd 2) s m args below meth c H locs 0 0 (QL D t A (wM t a) P below args s) (F0 m 71 ls [.long s11, .long s12])) (by
              intro v10 s11 s12 z14 hw H locs ls h hl
              refine lv_ladd (pc := 71) C.1 C.2.1 dX9_saved_71 ?_
              refine lv_topl (fun x15 ex15 => ?_)
              have hw := hw x15 ex15
              refine lv_lstore_n (lv' := [(2, .long x15), (0, .ref (a 0)), (1, .int b1), (4, .int v10)]) (pc := 72) C.1 C.2.1 dX9_saved_72 rfl hl (by decide) rfl (fun ls hl => ?_)
              obtain ⟨x16, ex16⟩ : ∃ y : Int32, y = v10 + (1) := ⟨_, rfl⟩
              have hw := hw x16 ex16
              refine lv_iinc (v := x16) (lv' := [(4, .int x16), (2, .long x15), (0, .ref (a 0)), (1, .int b1)]) (pc := 73) C.1 C.2.1 dX9_saved_73 hl (k := 3) rfl (by rw [ex16]; rfl) (by decide) rfl (fun ls hl => ?_)
              refine lv_goto (tgt := 10) (pc := 76) C.1 C.2.1 dX9_saved_76 (by decide) ?_
              exact hw _ _ _ h (lv_sub hl [2, 3, 1, 0] rfl))
          refine lv_icmp_ne (tgt := 70) (pc := 35) C.1 C.2.1 dX9_saved_35 (by decide) (fun c17 => ?_) (fun c17 => ?_)
          · have hw := hw.1 c17
            refine lv_lconst (v := 0) (pc := 70) C.1 C.2.1 dX9_saved_70 (by decide) ?_
            exact hw _ _ _ h (lv_sub hl [0, 1, 3] rfl)
          · have hw := hw.2 c17
            refine lv_aload_n (pc := 38) C.1 C.2.1 dX9_saved_38 rfl (lv_at hl 0 rfl) ?_
            refine lv_iload (pc := 39) C.1 C.2.1 dX9_saved_39 (lv_at hl 3 rfl) ?_
            refine lv_aload_n (pc := 41) C.1 C.2.1 dX9_saved_41 rfl (lv_at hl 0 rfl) ?_
            refine GM_X9_36_0 (pc := 42) C h dX9_saved_42 ?_
            refine lv_iload (pc := 45) C.1 C.2.1 dX9_saved_45 (lv_at hl 3 rfl) ?_
            refine ldM_7 (pc := 47) C h hw.1 dX9_saved_47 ?_
            have hw := hw.2
            refine lv_iload_n (pc := 48) C.1 C.2.1 dX9_saved_48 rfl (lv_at hl 1 rfl) ?_
            refine cl_vl (pc := 49) (As := [.int v3, .int (gF z7 7 v3.toNatClampNeg), .int b1]) (rest := [.long v2]) C h (m_X9_costAt l D t a v3 (gF z7 7 v3.toNatClampNeg) b1 z7 _ hw) mw_X9_costAt lm_X9_233 md_X9_costAt rcM_0 ⟨by decide, by decide⟩ ⟨Nat.zero_le _, Nat.zero_le _⟩ hl.1 rfl (Nat.le_of_ble_eq_true rfl) dX9_saved_49 (fun r19 z18 H locs hw h => ?_)
            refine lv_aload_n (pc := 52) C.1 C.2.1 dX9_saved_52 rfl (lv_at hl 0 rfl) ?_
            refine lv_iload (pc := 53) C.1 C.2.1 dX9_saved_53 (lv_at hl 3 rfl) ?_
            refine lv_aload_n (pc := 55) C.1 C.2.1 dX9_saved_55 rfl (lv_at hl 0 rfl) ?_
            refine GM_X9_51_0 (pc := 56) C h dX9_saved_56 ?_
            refine lv_iload (pc := 59) C.1 C.2.1 dX9_saved_59 (lv_at hl 3 rfl) ?_
            refine ldM_12 (pc := 61) C h hw.1 dX9_saved_61 ?_
            have hw := hw.2
            refine lv_iload_n (pc := 62) C.1 C.2.1 dX9_saved_62 rfl (lv_at hl 1 rfl) ?_
            refine cl_vl (pc := 63) (As := [.int v3, .int (gF z18 12 v3.toNatClampNeg), .int b1]) (rest := [.long r19, .long v2]) C h (m_X9_costAt l D t a v3 (gF z18 12 v3.toNatClampNeg) b1 z18 _ hw) mw_X9_costAt lm_X9_233 md_X9_costAt rcM_0 ⟨by decide, by decide⟩ ⟨Nat.zero_le _, Nat.zero_le _⟩ hl.1 rfl (Nat.le_of_ble_eq_true rfl) dX9_saved_63 (fun r21 z20 H locs hw h => ?_)
            refine lv_lsub (pc := 66) C.1 C.2.1 dX9_saved_66 ?_
            refine lv_goto (tgt := 71) (pc := 67) C.1 C.2.1 dX9_saved_67 (by decide) ?_
            exact hw _ _ _ h (lv_sub hl [0, 1, 3] rfl))
  refine lv_istore (lv' := [(4, .int ((0 : Int32))), (2, .long ((0 : Int64))), (0, .ref (a 0)), (1, .int b1)]) (pc := 8) C.1 C.2.1 dX9_saved_8 hl (by decide) rfl (fun ls hl => ?_)
  exact hw _ _ _ h (lv_sub hl [2, 3, 1, 0] rfl)

def wp_X9_store (b1 : Int32) (b2 : Int32) (b3 : Int32) (b4 : Int32) (b5 : Int32) (b6 : Int32) (b7 : Int32) (z : St) (P : Int32 → St → Prop) : Prop :=
  (∀ z1 : St, z1 = wI z 0 ((0 : Int32)) → (wp_X9_in (Int32.toInt64 b2) ((1 : Int64)) ((40 : Int64)) z1 (fun r3 z2 => (∀ K4 : St → Prop, (∀ (z5 : St), (wp_X9_told ((-1 : Int32)) z5 (fun r7 z6 => P r7 z6)) → K4 z5) → (((r3 = 0) → K4 z2) ∧ (¬ (r3 = 0) → (wp_X9_in (Int32.toInt64 b3) ((0 : Int64)) (Int32.toInt64 b2) z2 (fun r10 z9 => (((r10 = 0) → K4 z9) ∧ (¬ (r10 = 0) → (wp_X9_in (Int32.toInt64 b4) ((0 : Int64)) ((10 : Int64)) z9 (fun r13 z12 => (((r13 = 0) → K4 z12) ∧ (¬ (r13 = 0) → (wp_X9_in (Int32.toInt64 b5) ((0 : Int64)) ((10 : Int64)) z12 (fun r16 z15 => (((r16 = 0) → K4 z15) ∧ (¬ (r16 = 0) → (wp_X9_in (Int32.toInt64 b6) ((0 : Int64)) ((3 : Int64)) z15 (fun r19 z18 => (((r19 = 0) → K4 z18) ∧ (¬ (r19 = 0) → (wp_X9_in (Int32.toInt64 b7) ((1 : Int64)) ((1000 : Int64)) z18 (fun r22 z21 => (((¬ r22 = 0) → (wp_X9_isHome b1 z21 (fun r25 z24 => (((¬ r25 = 0) → (((¬ (gI z24 43) = ((6 : Int32))) → (vp_in (gI z24 43) 6 ∧ (∀ z28 : St, z28 = wR z24 26 (upd (gF z24 26) (gI z24 43).toNatClampNeg b1) → (vp_in (gI z28 43) 6 ∧ (∀ z29 : St, z29 = wR z28 27 (upd (gF z28 27) (gI z28 43).toNatClampNeg b2) → (vp_in (gI z29 43) 6 ∧ (∀ z30 : St, z30 = wR z29 28 (upd (gF z29 28) (gI z29 43).toNatClampNeg b3) → (vp_in (gI z30 43) 6 ∧ (∀ z31 : St, z31 = wR z30 29 (upd (gF z30 29) (gI z30 43).toNatClampNeg b4) → (vp_in (gI z31 43) 6 ∧ (∀ z32 : St, z32 = wR z31 30 (upd (gF z31 30) (gI z31 43).toNatClampNeg b5) → (vp_in (gI z32 43) 6 ∧ (∀ z33 : St, z33 = wR z32 31 (upd (gF z32 31) (gI z32 43).toNatClampNeg b6) → (vp_in (gI z33 43) 6 ∧ (∀ z34 : St, z34 = wR z33 32 (upd (gF z33 32) (gI z33 43).toNatClampNeg b7) → (∀ z35 : St, z35 = wI z34 43 ((gI z34 43) + ((1 : Int32))) → (wp_X9_told ((gI z35 43) - ((1 : Int32))) z35 (fun r37 z36 => P r37 z36)))))))))))))))))) ∧ ((gI z24 43) = ((6 : Int32)) → (wp_X9_told ((-5 : Int32)) z24 (fun r39 z38 => P r39 z38))))) ∧ (r25 = 0 → (wp_X9_told ((-2 : Int32)) z24 (fun r41 z40 => P r41 z40))))))) ∧ (r22 = 0 → K4 z21))))))))))))))))))))))))))
set_option maxHeartbeats 4000000 in
set_option maxRecDepth 100000 in
theorem m_X9_store (l : Launch) (D : va_G) (t : Ty3) (a : Nat → Nat) (b1 : Int32) (b2 : Int32) (b3 : Int32) (b4 : Int32) (b5 : Int32) (b6 : Int32) (b7 : Int32) (z : St) (P : Int32 → St → Prop) (hw : wp_X9_store b1 b2 b3 b4 b5 b6 b7 z P) : CtI l D t yX9_store cX9_store 8 (some .int) 2 (wM t a) (wM t a z) [.ref (a 0), .int b1, .int b2, .int b3, .int b4, .int b5, .int b6, .int b7] P := by
  refine ctI_of (by decide) (Nat.le_of_ble_eq_true rfl) ?_
  intro p e s m args below meth c A ls C hr hlk h hl
  have hl : lv_has ls 8 [(0, .ref (a 0)), (1, .int b1), (2, .int b2), (3, .int b3), (4, .int b4), (5, .int b5), (6, .int b6), (7, .int b7)] := hl
  unfold wp_X9_store at hw
  refine lv_aload_n (pc := 0) C.1 C.2.1 dX9_store_0 rfl (lv_at hl 0 rfl) ?_
  refine lv_iconst (v := 0) (pc := 1) C.1 C.2.1 dX9_store_1 (by decide) ?_
  refine PM_X9_131_0 (pc := 2) C h dX9_store_2 (fun z1 ez1 H locs h => ?_)
  have hw := hw z1 ez1
  refine lv_iload_n (pc := 5) C.1 C.2.1 dX9_store_5 rfl (lv_at hl 2 rfl) ?_
  refine lv_i2l (pc := 6) C.1 C.2.1 dX9_store_6 rfl ?_
  refine lv_lconst (v := 1) (pc := 7) C.1 C.2.1 dX9_store_7 (by decide) ?_
  refine lv_ldc2 (pc := 8) C.1 C.2.1 C.2.2.2.1 (C.2.2.2.2 _ lc_X9_304) dX9_store_8 ?_
  refine cl_si (pc := 11) (As := [.long (Int32.toInt64 b2), .long ((1 : Int64)), .long ((40 : Int64))]) (rest := []) C h (m_X9_in l D t a (Int32.toInt64 b2) ((1 : Int64)) ((40 : Int64)) z1 _ hw) mw_X9_in lm_X9_139 md_X9_in ⟨by decide, by decide⟩ ⟨Nat.zero_le _, Nat.zero_le _⟩ hl.1 rfl (Nat.le_of_ble_eq_true rfl) dX9_store_11 (fun r3 z2 H locs hw h => ?_)
  have hw := hw (fun (z5 : St) => ∀ (H : Heap) (locs : List Loc) (ls : Array Slot), wd D t A s (wM t a z5) H locs → lv_has ls 8 [(0, .ref (a 0))] → W p l e (rmd 2) s m args below meth c H locs 0 0 (QI D t A (wM t a) P below args s) (F0 m 80 ls [])) (by
      intro z5 hw H locs ls h hl
      refine lv_aload_n (pc := 80) C.1 C.2.1 dX9_store_80 rfl (lv_at hl 0 rfl) ?_
      refine lv_iconst (v := -1) (pc := 81) C.1 C.2.1 dX9_store_81 (by decide) ?_
      refine cl_vi (pc := 82) (As := [.int ((-1 : Int32))]) (rest := []) C h (m_X9_told l D t a ((-1 : Int32)) z5 _ hw) mw_X9_told lm_X9_162 md_X9_told rcM_0 ⟨by decide, by decide⟩ ⟨Nat.zero_le _, Nat.zero_le _⟩ hl.1 rfl (Nat.le_of_ble_eq_true rfl) dX9_store_82 (fun r7 z6 H locs hw h => ?_)
      exact rt_i (pc := 85) C hr hlk h hw dX9_store_85)
  refine lv_if_eq (tgt := 80) (pc := 14) C.1 C.2.1 dX9_store_14 (by decide) (fun c8 => ?_) (fun c8 => ?_)
  · have hw := hw.1 c8
    exact hw _ _ _ h (lv_sub hl [0] rfl)
  · have hw := hw.2 c8
    refine lv_iload_n (pc := 17) C.1 C.2.1 dX9_store_17 rfl (lv_at hl 3 rfl) ?_
    refine lv_i2l (pc := 18) C.1 C.2.1 dX9_store_18 rfl ?_
    refine lv_lconst (v := 0) (pc := 19) C.1 C.2.1 dX9_store_19 (by decide) ?_
    refine lv_iload_n (pc := 20) C.1 C.2.1 dX9_store_20 rfl (lv_at hl 2 rfl) ?_
    refine lv_i2l (pc := 21) C.1 C.2.1 dX9_store_21 rfl ?_
    refine cl_si (pc := 22) (As := [.long (Int32.toInt64 b3), .long ((0 : Int64)), .long (Int32.toInt64 b2)]) (rest := []) C h (m_X9_in l D t a (Int32.toInt64 b3) ((0 : Int64)) (Int32.toInt64 b2) z2 _ hw) mw_X9_in lm_X9_139 md_X9_in ⟨by decide, by decide⟩ ⟨Nat.zero_le _, Nat.zero_le _⟩ hl.1 rfl (Nat.le_of_ble_eq_true rfl) dX9_store_22 (fun r10 z9 H locs hw h => ?_)
    refine lv_if_eq (tgt := 80) (pc := 25) C.1 C.2.1 dX9_store_25 (by decide) (fun c11 => ?_) (fun c11 => ?_)
    · have hw := hw.1 c11
      exact hw _ _ _ h (lv_sub hl [0] rfl)
    · have hw := hw.2 c11
      refine lv_iload (pc := 28) C.1 C.2.1 dX9_store_28 (lv_at hl 4 rfl) ?_
      refine lv_i2l (pc := 30) C.1 C.2.1 dX9_store_30 rfl ?_
      refine lv_lconst (v := 0) (pc := 31) C.1 C.2.1 dX9_store_31 (by decide) ?_
      refine lv_ldc2 (pc := 32) C.1 C.2.1 C.2.2.2.1 (C.2.2.2.2 _ lc_X9_196) dX9_store_32 ?_
      refine cl_si (pc := 35) (As := [.long (Int32.toInt64 b4), .long ((0 : Int64)), .long ((10 : Int64))]) (rest := []) C h (m_X9_in l D t a (Int32.toInt64 b4) ((0 : Int64)) ((10 : Int64)) z9 _ hw) mw_X9_in lm_X9_139 md_X9_in ⟨by decide, by decide⟩ ⟨Nat.zero_le _, Nat.zero_le _⟩ hl.1 rfl (Nat.le_of_ble_eq_true rfl) dX9_store_35 (fun r13 z12 H locs hw h => ?_)
      refine lv_if_eq (tgt := 80) (pc := 38) C.1 C.2.1 dX9_store_38 (by decide) (fun c14 => ?_) (fun c14 => ?_)
      · have hw := hw.1 c14
        exact hw _ _ _ h (lv_sub hl [0] rfl)
      · have hw := hw.2 c14
        refine lv_iload (pc := 41) C.1 C.2.1 dX9_store_41 (lv_at hl 5 rfl) ?_
        refine lv_i2l (pc := 43) C.1 C.2.1 dX9_store_43 rfl ?_
        refine lv_lconst (v := 0) (pc := 44) C.1 C.2.1 dX9_store_44 (by decide) ?_
        refine lv_ldc2 (pc := 45) C.1 C.2.1 C.2.2.2.1 (C.2.2.2.2 _ lc_X9_196) dX9_store_45 ?_
        refine cl_si (pc := 48) (As := [.long (Int32.toInt64 b5), .long ((0 : Int64)), .long ((10 : Int64))]) (rest := []) C h (m_X9_in l D t a (Int32.toInt64 b5) ((0 : Int64)) ((10 : Int64)) z12 _ hw) mw_X9_in lm_X9_139 md_X9_in ⟨by decide, by decide⟩ ⟨Nat.zero_le _, Nat.zero_le _⟩ hl.1 rfl (Nat.le_of_ble_eq_true rfl) dX9_store_48 (fun r16 z15 H locs hw h => ?_)
        refine lv_if_eq (tgt := 80) (pc := 51) C.1 C.2.1 dX9_store_51 (by decide) (fun c17 => ?_) (fun c17 => ?_)
        · have hw := hw.1 c17
          exact hw _ _ _ h (lv_sub hl [0] rfl)
        · have hw := hw.2 c17
          refine lv_iload (pc := 54) C.1 C.2.1 dX9_store_54 (lv_at hl 6 rfl) ?_
          refine lv_i2l (pc := 56) C.1 C.2.1 dX9_store_56 rfl ?_
          refine lv_lconst (v := 0) (pc := 57) C.1 C.2.1 dX9_store_57 (by decide) ?_
          refine lv_ldc2 (pc := 58) C.1 C.2.1 C.2.2.2.1 (C.2.2.2.2 _ lc_X9_291) dX9_store_58 ?_
          refine cl_si (pc := 61) (As := [.long (Int32.toInt64 b6), .long ((0 : Int64)), .long ((3 : Int64))]) (rest := []) C h (m_X9_in l D t a (Int32.toInt64 b6) ((0 : Int64)) ((3 : Int64)) z15 _ hw) mw_X9_in lm_X9_139 md_X9_in ⟨by decide, by decide⟩ ⟨Nat.zero_le _, Nat.zero_le _⟩ hl.1 rfl (Nat.le_of_ble_eq_true rfl) dX9_store_61 (fun r19 z18 H locs hw h => ?_)
          refine lv_if_eq (tgt := 80) (pc := 64) C.1 C.2.1 dX9_store_64 (by decide) (fun c20 => ?_) (fun c20 => ?_)
          · have hw := hw.1 c20
            exact hw _ _ _ h (lv_sub hl [0] rfl)
          · have hw := hw.2 c20
            refine lv_iload (pc := 67) C.1 C.2.1 dX9_store_67 (lv_at hl 7 rfl) ?_
            refine lv_i2l (pc := 69) C.1 C.2.1 dX9_store_69 rfl ?_
            refine lv_lconst (v := 1) (pc := 70) C.1 C.2.1 dX9_store_70 (by decide) ?_
            refine lv_ldc2 (pc := 71) C.1 C.2.1 C.2.2.2.1 (C.2.2.2.2 _ lc_X9_143) dX9_store_71 ?_
            refine cl_si (pc := 74) (As := [.long (Int32.toInt64 b7), .long ((1 : Int64)), .long ((1000 : Int64))]) (rest := []) C h (m_X9_in l D t a (Int32.toInt64 b7) ((1 : Int64)) ((1000 : Int64)) z18 _ hw) mw_X9_in lm_X9_139 md_X9_in ⟨by decide, by decide⟩ ⟨Nat.zero_le _, Nat.zero_le _⟩ hl.1 rfl (Nat.le_of_ble_eq_true rfl) dX9_store_74 (fun r22 z21 H locs hw h => ?_)
            refine lv_if_ne (tgt := 86) (pc := 77) C.1 C.2.1 dX9_store_77 (by decide) (fun c23 => ?_) (fun c23 => ?_)
            · have hw := hw.1 c23
              refine lv_aload_n (pc := 86) C.1 C.2.1 dX9_store_86 rfl (lv_at hl 0 rfl) ?_
              refine lv_iload_n (pc := 87) C.1 C.2.1 dX9_store_87 rfl (lv_at hl 1 rfl) ?_
              refine cl_vi (pc := 88) (As := [.int b1]) (rest := []) C h (m_X9_isHome l D t a b1 z21 _ hw) mw_X9_isHome lm_X9_186 md_X9_isHome rcM_0 ⟨by decide, by decide⟩ ⟨Nat.zero_le _, Nat.zero_le _⟩ hl.1 rfl (Nat.le_of_ble_eq_true rfl) dX9_store_88 (fun r25 z24 H locs hw h => ?_)
              refine lv_if_ne (tgt := 101) (pc := 91) C.1 C.2.1 dX9_store_91 (by decide) (fun c26 => ?_) (fun c26 => ?_)
              · have hw := hw.1 c26
                refine lv_aload_n (pc := 101) C.1 C.2.1 dX9_store_101 rfl (lv_at hl 0 rfl) ?_
                refine GM_X9_306_0 (pc := 102) C h dX9_store_102 ?_
                refine lv_bipush (v := 6) (pc := 105) C.1 C.2.1 dX9_store_105 (by decide) ?_
                refine lv_icmp_ne (tgt := 117) (pc := 107) C.1 C.2.1 dX9_store_107 (by decide) (fun c27 => ?_) (fun c27 => ?_)
                · have hw := hw.1 c27
                  refine lv_aload_n (pc := 117) C.1 C.2.1 dX9_store_117 rfl (lv_at hl 0 rfl) ?_
                  refine GM_X9_97_0 (pc := 118) C h dX9_store_118 ?_
                  refine lv_aload_n (pc := 121) C.1 C.2.1 dX9_store_121 rfl (lv_at hl 0 rfl) ?_
                  refine GM_X9_306_0 (pc := 122) C h dX9_store_122 ?_
                  refine lv_iload_n (pc := 125) C.1 C.2.1 dX9_store_125 rfl (lv_at hl 1 rfl) ?_
                  refine stM_26 (pc := 126) C h hw.1 dX9_store_126 (fun z28 ez28 H locs h => ?_)
                  have hw := hw.2 z28 ez28
                  refine lv_aload_n (pc := 127) C.1 C.2.1 dX9_store_127 rfl (lv_at hl 0 rfl) ?_
                  refine GM_X9_100_0 (pc := 128) C h dX9_store_128 ?_
                  refine lv_aload_n (pc := 131) C.1 C.2.1 dX9_store_131 rfl (lv_at hl 0 rfl) ?_
                  refine GM_X9_306_0 (pc := 132) C h dX9_store_132 ?_
                  refine lv_iload_n (pc := 135) C.1 C.2.1 dX9_store_135 rfl (lv_at hl 2 rfl) ?_
                  refine stM_27 (pc := 136) C h hw.1 dX9_store_136 (fun z29 ez29 H locs h => ?_)
                  have hw := hw.2 z29 ez29
                  refine lv_aload_n (pc := 137) C.1 C.2.1 dX9_store_137 rfl (lv_at hl 0 rfl) ?_
                  refine GM_X9_103_0 (pc := 138) C h dX9_store_138 ?_
                  refine lv_aload_n (pc := 141) C.1 C.2.1 dX9_store_141 rfl (lv_at hl 0 rfl) ?_
                  refine GM_X9_306_0 (pc := 142) C h dX9_store_142 ?_
                  refine lv_iload_n (pc := 145) C.1 C.2.1 dX9_store_145 rfl (lv_at hl 3 rfl) ?_
                  refine stM_28 (pc := 146) C h hw.1 dX9_store_146 (fun z30 ez30 H locs h => ?_)
                  have hw := hw.2 z30 ez30
                  refine lv_aload_n (pc := 147) C.1 C.2.1 dX9_store_147 rfl (lv_at hl 0 rfl) ?_
                  refine GM_X9_106_0 (pc := 148) C h dX9_store_148 ?_
                  refine lv_aload_n (pc := 151) C.1 C.2.1 dX9_store_151 rfl (lv_at hl 0 rfl) ?_
                  refine GM_X9_306_0 (pc := 152) C h dX9_store_152 ?_
                  refine lv_iload (pc := 155) C.1 C.2.1 dX9_store_155 (lv_at hl 4 rfl) ?_
                  refine stM_29 (pc := 157) C h hw.1 dX9_store_157 (fun z31 ez31 H locs h => ?_)
                  have hw := hw.2 z31 ez31
                  refine lv_aload_n (pc := 158) C.1 C.2.1 dX9_store_158 rfl (lv_at hl 0 rfl) ?_
                  refine GM_X9_109_0 (pc := 159) C h dX9_store_159 ?_
                  refine lv_aload_n (pc := 162) C.1 C.2.1 dX9_store_162 rfl (lv_at hl 0 rfl) ?_
                  refine GM_X9_306_0 (pc := 163) C h dX9_store_163 ?_
                  refine lv_iload (pc := 166) C.1 C.2.1 dX9_store_166 (lv_at hl 5 rfl) ?_
                  refine stM_30 (pc := 168) C h hw.1 dX9_store_168 (fun z32 ez32 H locs h => ?_)
                  have hw := hw.2 z32 ez32
                  refine lv_aload_n (pc := 169) C.1 C.2.1 dX9_store_169 rfl (lv_at hl 0 rfl) ?_
                  refine GM_X9_112_0 (pc := 170) C h dX9_store_170 ?_
                  refine lv_aload_n (pc := 173) C.1 C.2.1 dX9_store_173 rfl (lv_at hl 0 rfl) ?_
                  refine GM_X9_306_0 (pc := 174) C h dX9_store_174 ?_
                  refine lv_iload (pc := 177) C.1 C.2.1 dX9_store_177 (lv_at hl 6 rfl) ?_
                  refine stM_31 (pc := 179) C h hw.1 dX9_store_179 (fun z33 ez33 H locs h => ?_)
                  have hw := hw.2 z33 ez33
                  refine lv_aload_n (pc := 180) C.1 C.2.1 dX9_store_180 rfl (lv_at hl 0 rfl) ?_
                  refine GM_X9_115_0 (pc := 181) C h dX9_store_181 ?_
                  refine lv_aload_n (pc := 184) C.1 C.2.1 dX9_store_184 rfl (lv_at hl 0 rfl) ?_
                  refine GM_X9_306_0 (pc := 185) C h dX9_store_185 ?_
                  refine lv_iload (pc := 188) C.1 C.2.1 dX9_store_188 (lv_at hl 7 rfl) ?_
                  refine stM_32 (pc := 190) C h hw.1 dX9_store_190 (fun z34 ez34 H locs h => ?_)
                  have hw := hw.2 z34 ez34
                  refine lv_aload_n (pc := 191) C.1 C.2.1 dX9_store_191 rfl (lv_at hl 0 rfl) ?_
                  refine lv_dup (pc := 192) C.1 C.2.1 dX9_store_192 rfl ?_
                  refine GM_X9_306_0 (pc := 193) C h dX9_store_193 ?_
                  refine lv_iconst (v := 1) (pc := 196) C.1 C.2.1 dX9_store_196 (by decide) ?_
                  refine lv_iadd (pc := 197) C.1 C.2.1 dX9_store_197 ?_
                  refine PM_X9_306_0 (pc := 198) C h dX9_store_198 (fun z35 ez35 H locs h => ?_)
                  have hw := hw z35 ez35
                  refine lv_aload_n (pc := 201) C.1 C.2.1 dX9_store_201 rfl (lv_at hl 0 rfl) ?_
                  refine lv_aload_n (pc := 202) C.1 C.2.1 dX9_store_202 rfl (lv_at hl 0 rfl) ?_
                  refine GM_X9_306_0 (pc := 203) C h dX9_store_203 ?_
                  refine lv_iconst (v := 1) (pc := 206) C.1 C.2.1 dX9_store_206 (by decide) ?_
                  refine lv_isub (pc := 207) C.1 C.2.1 dX9_store_207 ?_
                  refine cl_vi (pc := 208) (As := [.int ((gI z35 43) - ((1 : Int32)))]) (rest := []) C h (m_X9_told l D t a ((gI z35 43) - ((1 : Int32))) z35 _ hw) mw_X9_told lm_X9_162 md_X9_told rcM_0 ⟨by decide, by decide⟩ ⟨Nat.zero_le _, Nat.zero_le _⟩ hl.1 rfl (Nat.le_of_ble_eq_true rfl) dX9_store_208 (fun r37 z36 H locs hw h => ?_)
                  exact rt_i (pc := 211) C hr hlk h hw dX9_store_211
                · have hw := hw.2 c27
                  refine lv_aload_n (pc := 110) C.1 C.2.1 dX9_store_110 rfl (lv_at hl 0 rfl) ?_
                  refine lv_bipush (v := -5) (pc := 111) C.1 C.2.1 dX9_store_111 (by decide) ?_
                  refine cl_vi (pc := 113) (As := [.int ((-5 : Int32))]) (rest := []) C h (m_X9_told l D t a ((-5 : Int32)) z24 _ hw) mw_X9_told lm_X9_162 md_X9_told rcM_0 ⟨by decide, by decide⟩ ⟨Nat.zero_le _, Nat.zero_le _⟩ hl.1 rfl (Nat.le_of_ble_eq_true rfl) dX9_store_113 (fun r39 z38 H locs hw h => ?_)
                  exact rt_i (pc := 116) C hr hlk h hw dX9_store_116
              · have hw := hw.2 c26
                refine lv_aload_n (pc := 94) C.1 C.2.1 dX9_store_94 rfl (lv_at hl 0 rfl) ?_
                refine lv_bipush (v := -2) (pc := 95) C.1 C.2.1 dX9_store_95 (by decide) ?_
                refine cl_vi (pc := 97) (As := [.int ((-2 : Int32))]) (rest := []) C h (m_X9_told l D t a ((-2 : Int32)) z24 _ hw) mw_X9_told lm_X9_162 md_X9_told rcM_0 ⟨by decide, by decide⟩ ⟨Nat.zero_le _, Nat.zero_le _⟩ hl.1 rfl (Nat.le_of_ble_eq_true rfl) dX9_store_97 (fun r41 z40 H locs hw h => ?_)
                exact rt_i (pc := 100) C hr hlk h hw dX9_store_100
            · have hw := hw.2 c23
              exact hw _ _ _ h (lv_sub hl [0] rfl)
