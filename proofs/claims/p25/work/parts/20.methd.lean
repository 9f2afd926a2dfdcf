def wp_X9_search (b1 : Int32) (z : St) (P : Int64 → St → Prop) : Prop :=
  (wp_X9_findLeast b1 z (fun z1 => (∀ K4 : Int32 → Prop, (∀ (s3 : Int32), (∀ K10 : Int64 → Int32 → Int64 → Int32 → Int32 → St → Prop, (∀ (v5 : Int64) (v6 : Int32) (v7 : Int64) (v8 : Int32) (v9 : Int32) (z11 : St), (((v8 < 0) → (((v6 = 0) → P ((-4000000000000000000 : Int64)) z11) ∧ (¬ (v6 = 0) → P v5 z11))) ∧ (¬ (v8 < 0) → (vp_in v8 5 ∧ (∀ x14 : Int32, x14 = gF z11 18 v8.toNatClampNeg → (∀ K17 : Int32 → Int32 → St → Prop, (∀ (v15 : Int32) (v16 : Int32) (z18 : St), (vp_in x14 16 ∧ (∀ K19 : Prop, ((∀ K24 : Int64 → Int32 → Int64 → Int32 → St → Prop, (∀ (v20 : Int64) (v21 : Int32) (v22 : Int64) (v23 : Int32) (z25 : St), (∀ K28 : Int64 → Int32 → St → Prop, (∀ (v26 : Int64) (v27 : Int32) (z29 : St), K10 v20 v21 v26 v23 v27 z29 → K28 v26 v27 z29) → (((v23 < 0) → K28 v22 v15 z25) ∧ (¬ (v23 < 0) → (vp_in v23 5 ∧ (∀ x31 : Int32, x31 = gF z25 18 v23.toNatClampNeg → (vp_in x31 16 ∧ (vp_in x31 16 ∧ (vp_in (((((24 : Int32)) * v23) + (gF z25 12 x31.toNatClampNeg)) - (gF z25 7 x31.toNatClampNeg)) 120 ∧ (∀ x32 : Int64, x32 = v22 - (gG z25 21 (((((24 : Int32)) * v23) + (gF z25 12 x31.toNatClampNeg)) - (gF z25 7 x31.toNatClampNeg)).toNatClampNeg) → (vp_in x31 16 ∧ (∀ z33 : St, z33 = wR z25 11 (upd (gF z25 11) x31.toNatClampNeg ((0 : Int32))) → (vp_in x31 16 ∧ (∀ x34 : Int32, x34 = (gF z33 12 x31.toNatClampNeg) + ((1 : Int32)) → K28 x32 x34 z33))))))))))))) → K24 v20 v21 v22 v23 z25) → (((v16 = 0) → (∀ x36 : Int32, x36 = v8 + (-1) → K24 v5 v6 v7 x36 z18)) ∧ (¬ (v16 = 0) → (vp_in x14 16 ∧ (∀ z37 : St, z37 = wR z18 11 (upd (gF z18 11) x14.toNatClampNeg ((1 : Int32))) → (vp_in x14 16 ∧ (∀ z38 : St, z38 = wR z37 12 (upd (gF z37 12) x14.toNatClampNeg v15) → (vp_in x14 16 ∧ (vp_in (((((24 : Int32)) * v8) + v15) - (gF z38 7 x14.toNatClampNeg)) 120 ∧ (∀ x39 : Int64, x39 = v7 + (gG z38 21 (((((24 : Int32)) * v8) + v15) - (gF z38 7 x14.toNatClampNeg)).toNatClampNeg) → (((¬ v8 = (b1 - ((1 : Int32)))) → (∀ x41 : Int32, x41 = v8 + (1) → (vp_in x41 5 ∧ (vp_in (gF z38 18 x41.toNatClampNeg) 16 ∧ (∀ x42 : Int32, x42 = gF z38 7 (gF z38 18 x41.toNatClampNeg).toNatClampNeg → K10 v5 v6 x39 x41 x42 z38))))) ∧ (v8 = (b1 - ((1 : Int32))) → (∀ K44 : Int32 → St → Prop, (∀ (v43 : Int32) (z45 : St), (((b1 ≤ v43) → K24 x39 ((1 : Int32)) x39 v8 z45) ∧ (¬ (b1 ≤ v43) → (vp_in v43 5 ∧ (vp_in (gF z45 18 v43.toNatClampNeg) 16 ∧ (vp_in v43 5 ∧ (∀ z47 : St, z47 = wR z45 23 (upd (gF z45 23) v43.toNatClampNeg (gF z45 12 (gF z45 18 v43.toNatClampNeg).toNatClampNeg)) → (∀ x48 : Int32, x48 = v43 + (1) → K44 x48 z47))))))) → K44 v43 z45) → K44 ((0 : Int32)) z38))))))))))))) → K19) → ((((gF z18 8 x14.toNatClampNeg) < v15) → K19) ∧ (¬ ((gF z18 8 x14.toNatClampNeg) < v15) → (((¬ v16 = 0) → K19) ∧ (v16 = 0 → (vp_in x14 16 ∧ (vp_in (((((24 : Int32)) * v8) + v15) - (gF z18 7 x14.toNatClampNeg)) 120 ∧ (∀ x51 : Int64, x51 = v7 + (gG z18 21 (((((24 : Int32)) * v8) + v15) - (gF z18 7 x14.toNatClampNeg)).toNatClampNeg) → (∀ K53 : Int32 → St → Prop, (∀ (s52 : Int32) (z54 : St), (∀ K57 : Int32 → Int32 → Prop, (∀ (s55 : Int32) (s56 : Int32), (∀ x58 : Int32, x58 = s56 + s55 → K17 x58 s52 z54) → K57 s55 s56) → (((s52 = 0) → K57 ((1 : Int32)) v15) ∧ (¬ (s52 = 0) → K57 ((0 : Int32)) v15))) → K53 s52 z54) → (∀ K60 : St → Prop, (∀ (z61 : St), K53 ((0 : Int32)) z61 → K60 z61) → (∀ K62 : Prop, ((wp_X9_mayBegin x14 v15 z18 (fun r64 z63 => (((r64 = 0) → K60 z63) ∧ (¬ (r64 = 0) → K53 ((1 : Int32)) z63)))) → K62) → (((v6 = 0) → K62) ∧ (¬ (v6 = 0) → (vp_in (v8 + ((1 : Int32))) 6 ∧ (((0 ≤ (lg_cmp (x51 + (gG z18 22 (v8 + ((1 : Int32))).toNatClampNeg)) v5)) → K60 z18) ∧ (¬ (0 ≤ (lg_cmp (x51 + (gG z18 22 (v8 + ((1 : Int32))).toNatClampNeg)) v5)) → K62))))))))))))))))) → K17 v15 v16 z18) → K17 v9 ((0 : Int32)) z11))))) → K10 v5 v6 v7 v8 v9 z11) → (((¬ b1 = 0) → K10 ((-4000000000000000000 : Int64)) ((0 : Int32)) ((0 : Int64)) ((0 : Int32)) s3 z1) ∧ (b1 = 0 → P ((0 : Int64)) z1))) → K4 s3) → (((¬ b1 = 0) → (vp_in ((0 : Int32)) 5 ∧ (vp_in (gF z1 18 ((0 : Int32)).toNatClampNeg) 16 ∧ K4 (gF z1 7 (gF z1 18 ((0 : Int32)).toNatClampNeg).toNatClampNeg)))) ∧ (b1 = 0 → K4 ((0 : Int32)))))))
set_option maxHeartbeats 4000000 in
set_option maxRecDepth 100000 in
theorem m_X9_search (l : Launch) (D : va_G) (t : Ty3) (a : Nat → Nat) (b1 : Int32) (z : St) (P : Int64 → St → Prop) (hw : wp_X9_search b1 z P) : CtL l D t yX9_search cX9_search 13 (some .long) 4 (wM t a) (wM t a z) [.ref (a 0), .int b1] P := by
  refine ctL_of (by decide) (Nat.le_of_ble_eq_true rfl) ?_
  intro p e s m args below meth c A ls C hr hlk h hl
  have hl : lv_has ls 13 [(0, .ref (a 0)), (1, .int b1)] := hl
  unfold wp_X9_search at hw
  refine lv_aload_n (pc := 0) C.1 C.2.1 dX9_search_0 rfl (lv_at hl 0 rfl) ?_
  refine lv_iload_n (pc := 1) C.1 C.2.1 dX9_search_1 rfl (lv_at hl 1 rfl) ?_
  refine cl_vv (pc := 2) (As := [.int b1]) (rest := []) C h (m_X9_findLeast l D t a b1 z _ hw) mw_X9_findLeast lm_X9_237 md_X9_findLeast rcM_0 ⟨by decide, by decide⟩ ⟨Nat.zero_le _, Nat.zero_le _⟩ hl.1 rfl (Nat.le_of_ble_eq_true rfl) dX9_search_2 (fun z1 H locs hw h => ?_)
  refine lv_ldc2 (pc := 5) C.1 C.2.1 C.2.2.2.1 (C.2.2.2.2 _ lc_X9_229) dX9_search_5 ?_
  refine lv_lstore_n (lv' := [(2, .long ((-4000000000000000000 : Int64))), (0, .ref (a 0)), (1, .int b1)]) (pc := 8) C.1 C.2.1 dX9_search_8 rfl hl (by decide) rfl (fun ls hl => ?_)
  refine lv_iconst (v := 0) (pc := 9) C.1 C.2.1 dX9_search_9 (by decide) ?_
  refine lv_istore (lv' := [(4, .int ((0 : Int32))), (2, .long ((-4000000000000000000 : Int64))), (0, .ref (a 0)), (1, .int b1)]) (pc := 10) C.1 C.2.1 dX9_search_10 hl (by decide) rfl (fun ls hl => ?_)
  refine lv_lconst (v := 0) (pc := 12) C.1 C.2.1 dX9_search_12 (by decide) ?_
  refine lv_lstore (lv' := [(5, .long ((0 : Int64))), (4, .int ((0 : Int32))), (2, .long ((-4000000000000000000 : Int64))), (0, .ref (a 0)), (1, .int b1)]) (pc := 13) C.1 C.2.1 dX9_search_13 hl (by decide) rfl (fun ls hl => ?_)
  refine lv_iconst (v := 0) (pc := 15) C.1 C.2.1 dX9_search_15 (by decide) ?_
  refine lv_istore (lv' := [(7, .int ((0 : Int32))), (5, .long ((0 : Int64))), (4, .int ((0 : Int32))), (2, .long ((-4000000000000000000 : Int64))), (0, .ref (a 0)), (1, .int b1)]) (pc := 16) C.1 C.2.1 dX9_search_16 hl (by decide) rfl (fun ls hl => ?_)
  refine lv_iload_n (pc := 18) C.1 C.2.1 dX9_search_18 rfl (lv_at hl 5 rfl) ?_
  have hw := hw (fun (s3 : Int32) => ∀ (H : Heap) (locs : List Loc) (ls : Array Slot), wd D t A s (wM t a z1) H locs → lv_has ls 13 [(0, .ref (a 0)), (1, .int b1), (2, .long ((-4000000000000000000 : Int64))), (4, .int ((0 : Int32))), (5, .long ((0 : Int64))), (7, .int ((0 : Int32)))] → W p l e (rmd 4) s m args below meth c H locs 0 0 (QL D t A (wM t a) P below args s) (F0 m 37 ls [.int s3])) (by
      intro s3 hw H locs ls h hl
      refine lv_istore (lv' := [(8, .int s3), (0, .ref (a 0)), (1, .int b1), (2, .long ((-4000000000000000000 : Int64))), (4, .int ((0 : Int32))), (5, .long ((0 : Int64))), (7, .int ((0 : Int32)))]) (pc := 37) C.1 C.2.1 dX9_search_37 hl (by decide) rfl (fun ls hl => ?_)
      refine lv_iload_n (pc := 39) C.1 C.2.1 dX9_search_39 rfl (lv_at hl 2 rfl) ?_
      have hw := hw (fun (v5 : Int64) (v6 : Int32) (v7 : Int64) (v8 : Int32) (v9 : Int32) (z11 : St) => ∀ (H : Heap) (locs : List Loc) (ls : Array Slot), wd D t A s (wM t a z11) H locs → lv_has ls 13 [(0, .ref (a 0)), (1, .int b1), (2, .long v5), (4, .int v6), (5, .long v7), (7, .int v8), (8, .int v9)] → W p l e (rmd 4) s m args below meth c H locs 0 0 (QL D t A (wM t a) P below args s) (F0 m 45 ls [])) (by
          intro v5 v6 v7 v8 v9 z11 hw H locs ls h hl
          refine lv_iload (pc := 45) C.1 C.2.1 dX9_search_45 (lv_at hl 5 rfl) ?_
          refine lv_if_lt (tgt := 352) (pc := 47) C.1 C.2.1 dX9_search_47 (by decide) (fun c12 => ?_) (fun c12 => ?_)
          · have hw := hw.1 c12
            refine lv_iload (pc := 352) C.1 C.2.1 dX9_search_352 (lv_at hl 3 rfl) ?_
            refine lv_if_eq (tgt := 361) (pc := 354) C.1 C.2.1 dX9_search_354 (by decide) (fun c13 => ?_) (fun c13 => ?_)
            · have hw := hw.1 c13
              refine lv_ldc2 (pc := 361) C.1 C.2.1 C.2.2.2.1 (C.2.2.2.2 _ lc_X9_229) dX9_search_361 ?_
              exact rt_l (pc := 364) C hr hlk h hw dX9_search_364
            · have hw := hw.2 c13
              refine lv_lload_n (pc := 357) C.1 C.2.1 dX9_search_357 rfl (lv_at hl 2 rfl) ?_
              refine lv_goto (tgt := 364) (pc := 358) C.1 C.2.1 dX9_search_358 (by decide) ?_
              exact rt_l (pc := 364) C hr hlk h hw dX9_search_364
          · have hw := hw.2 c12
            refine lv_aload_n (pc := 50) C.1 C.2.1 dX9_search_50 rfl (lv_at hl 0 rfl) ?_
            refine GM_X9_69_0 (pc := 51) C h dX9_search_51 ?_
            refine lv_iload (pc := 54) C.1 C.2.1 dX9_search_54 (lv_at hl 5 rfl) ?_
            refine ldM_18 (pc := 56) C h hw.1 dX9_search_56 ?_
            have hw := hw.2
            refine lv_topi (fun x14 ex14 => ?_)
            have hw := hw x14 ex14
            refine lv_istore (lv' := [(9, .int x14), (0, .ref (a 0)), (1, .int b1), (2, .long v5), (4, .int v6), (5, .long v7), (7, .int v8), (8, .int v9)]) (pc := 57) C.1 C.2.1 dX9_search_57 hl (by decide) rfl (fun ls hl => ?_)
            refine lv_iconst (v := 0) (pc := 59) C.1 C.2.1 dX9_search_59 (by decide) ?_
            have hw := hw (fun (v15 : Int32) (v16 : Int32) (z18 : St) => ∀ (H : Heap) (locs : List Loc) (ls : Array Slot), wd D t A s (wM t a z18) H locs → lv_has ls 13 [(0, .ref (a 0)), (1, .int b1), (2, .long v5), (4, .int v6), (5, .long v7), (7, .int v8), (8, .int v15), (9, .int x14), (10, .int v16)] → W p l e (rmd 4) s m args below meth c H locs 0 0 (QL D t A (wM t a) P below args s) (F0 m 62 ls [])) (by
                intro v15 v16 z18 hw H locs ls h hl
                refine lv_iload (pc := 62) C.1 C.2.1 dX9_search_62 (lv_at hl 6 rfl) ?_
                refine lv_aload_n (pc := 64) C.1 C.2.1 dX9_search_64 rfl (lv_at hl 0 rfl) ?_
                refine GM_X9_39_0 (pc := 65) C h dX9_search_65 ?_
                refine lv_iload (pc := 68) C.1 C.2.1 dX9_search_68 (lv_at hl 7 rfl) ?_
                refine ldM_8 (pc := 70) C h hw.1 dX9_search_70 ?_
                have hw := hw.2
                have hw := hw (∀ (H : Heap) (locs : List Loc) (ls : Array Slot), wd D t A s (wM t a z18) H locs → lv_has ls 13 [(0, .ref (a 0)), (1, .int b1), (2, .long v5), (4, .int v6), (5, .long v7), (7, .int v8), (8, .int v15), (9, .int x14), (10, .int v16)] → W p l e (rmd 4) s m args below meth c H locs 0 0 (QL D t A (wM t a) P below args s) (F0 m 163 ls [])) (by
                    intro hw H locs ls h hl
                    refine lv_iload (pc := 163) C.1 C.2.1 dX9_search_163 (lv_at hl 8 rfl) ?_
                    have hw := hw (fun (v20 : Int64) (v21 : Int32) (v22 : Int64) (v23 : Int32) (z25 : St) => ∀ (H : Heap) (locs : List Loc) (ls : Array Slot), wd D t A s (wM t a z25) H locs → lv_has ls 13 [(0, .ref (a 0)), (1, .int b1), (2, .long v20), (4, .int v21), (5, .long v22), (7, .int v23), (8, .int v15)] → W p l e (rmd 4) s m args below meth c H locs 0 0 (QL D t A (wM t a) P below args s) (F0 m 285 ls [])) (by
                        intro v20 v21 v22 v23 z25 hw H locs ls h hl
                        refine lv_iload (pc := 285) C.1 C.2.1 dX9_search_285 (lv_at hl 5 rfl) ?_
                        have hw := hw (fun (v26 : Int64) (v27 : Int32) (z29 : St) => ∀ (H : Heap) (locs : List Loc) (ls : Array Slot), wd D t A s (wM t a z29) H locs → lv_has ls 13 [(0, .ref (a 0)), (1, .int b1), (2, .long v20), (4, .int v21), (5, .long v26), (7, .int v23), (8, .int v27)] → W p l e (rmd 4) s m args below meth c H locs 0 0 (QL D t A (wM t a) P below args s) (F0 m 349 ls [])) (by
                            intro v26 v27 z29 hw H locs ls h hl
                            refine lv_goto (tgt := 45) (pc := 349) C.1 C.2.1 dX9_search_349 (by decide) ?_
                            exact hw _ _ _ h (lv_sub hl [0, 1, 2, 3, 4, 5, 6] rfl))
                        refine lv_if_lt (tgt := 349) (pc := 287) C.1 C.2.1 dX9_search_287 (by decide) (fun c30 => ?_) (fun c30 => ?_)
                        · have hw := hw.1 c30
                          exact hw _ _ _ h (lv_sub hl [0, 1, 2, 3, 4, 5, 6] rfl)
                        · have hw := hw.2 c30
                          refine lv_aload_n (pc := 290) C.1 C.2.1 dX9_search_290 rfl (lv_at hl 0 rfl) ?_
                          refine GM_X9_69_0 (pc := 291) C h dX9_search_291 ?_
                          refine lv_iload (pc := 294) C.1 C.2.1 dX9_search_294 (lv_at hl 5 rfl) ?_
                          refine ldM_18 (pc := 296) C h hw.1 dX9_search_296 ?_
                          have hw := hw.2
                          refine lv_topi (fun x31 ex31 => ?_)
                          have hw := hw x31 ex31
                          refine lv_istore (lv' := [(9, .int x31), (0, .ref (a 0)), (1, .int b1), (2, .long v20), (4, .int v21), (5, .long v22), (7, .int v23), (8, .int v15)]) (pc := 297) C.1 C.2.1 dX9_search_297 hl (by decide) rfl (fun ls hl => ?_)
                          refine lv_lload (pc := 299) C.1 C.2.1 dX9_search_299 (lv_at hl 5 rfl) ?_
                          refine lv_aload_n (pc := 301) C.1 C.2.1 dX9_search_301 rfl (lv_at hl 1 rfl) ?_
                          refine GM_X9_78_0 (pc := 302) C h dX9_search_302 ?_
                          refine lv_bipush (v := 24) (pc := 305) C.1 C.2.1 dX9_search_305 (by decide) ?_
                          refine lv_iload (pc := 307) C.1 C.2.1 dX9_search_307 (lv_at hl 6 rfl) ?_
                          refine lv_imul (pc := 309) C.1 C.2.1 dX9_search_309 ?_
                          refine lv_aload_n (pc := 310) C.1 C.2.1 dX9_search_310 rfl (lv_at hl 1 rfl) ?_
                          refine GM_X9_51_0 (pc := 311) C h dX9_search_311 ?_
                          refine lv_iload (pc := 314) C.1 C.2.1 dX9_search_314 (lv_at hl 0 rfl) ?_
                          refine ldM_12 (pc := 316) C h hw.1 dX9_search_316 ?_
                          have hw := hw.2
                          refine lv_iadd (pc := 317) C.1 C.2.1 dX9_search_317 ?_
                          refine lv_aload_n (pc := 318) C.1 C.2.1 dX9_search_318 rfl (lv_at hl 1 rfl) ?_
                          refine GM_X9_36_0 (pc := 319) C h dX9_search_319 ?_
                          refine lv_iload (pc := 322) C.1 C.2.1 dX9_search_322 (lv_at hl 0 rfl) ?_
                          refine ldM_7 (pc := 324) C h hw.1 dX9_search_324 ?_
                          have hw := hw.2
                          refine lv_isub (pc := 325) C.1 C.2.1 dX9_search_325 ?_
                          refine ldM_21 (pc := 326) C h hw.1 dX9_search_326 ?_
                          have hw := hw.2
                          refine lv_lsub (pc := 327) C.1 C.2.1 dX9_search_327 ?_
                          refine lv_topl (fun x32 ex32 => ?_)
                          have hw := hw x32 ex32
                          refine lv_lstore (lv' := [(5, .long x32), (9, .int x31), (0, .ref (a 0)), (1, .int b1), (2, .long v20), (4, .int v21), (7, .int v23), (8, .int v15)]) (pc := 328) C.1 C.2.1 dX9_search_328 hl (by decide) rfl (fun ls hl => ?_)
                          refine lv_aload_n (pc := 330) C.1 C.2.1 dX9_search_330 rfl (lv_at hl 2 rfl) ?_
                          refine GM_X9_48_0 (pc := 331) C h dX9_search_331 ?_
                          refine lv_iload (pc := 334) C.1 C.2.1 dX9_search_334 (lv_at hl 1 rfl) ?_
                          refine lv_iconst (v := 0) (pc := 336) C.1 C.2.1 dX9_search_336 (by decide) ?_
                          refine stM_11 (pc := 337) C h hw.1 dX9_search_337 (fun z33 ez33 H locs h => ?_)
                          have hw := hw.2 z33 ez33
                          refine lv_aload_n (pc := 338) C.1 C.2.1 dX9_search_338 rfl (lv_at hl 2 rfl) ?_
                          refine GM_X9_51_0 (pc := 339) C h dX9_search_339 ?_
                          refine lv_iload (pc := 342) C.1 C.2.1 dX9_search_342 (lv_at hl 1 rfl) ?_
                          refine ldM_12 (pc := 344) C h hw.1 dX9_search_344 ?_
                          have hw := hw.2
                          refine lv_iconst (v := 1) (pc := 345) C.1 C.2.1 dX9_search_345 (by decide) ?_
                          refine lv_iadd (pc := 346) C.1 C.2.1 dX9_search_346 ?_
                          refine lv_topi (fun x34 ex34 => ?_)
                          have hw := hw x34 ex34
                          refine lv_istore (lv' := [(8, .int x34), (5, .long x32), (9, .int x31), (0, .ref (a 0)), (1, .int b1), (2, .long v20), (4, .int v21), (7, .int v23)]) (pc := 347) C.1 C.2.1 dX9_search_347 hl (by decide) rfl (fun ls hl => ?_)
                          exact hw _ _ _ h (lv_sub hl [3, 4, 5, 6, 1, 7, 0] rfl))
                    refine lv_if_eq (tgt := 282) (pc := 165) C.1 C.2.1 dX9_search_165 (by decide) (fun c35 => ?_) (fun c35 => ?_)
                    · have hw := hw.1 c35
                      obtain ⟨x36, ex36⟩ : ∃ y : Int32, y = v8 + (-1) := ⟨_, rfl⟩
                      have hw := hw x36 ex36
                      refine lv_iinc (v := x36) (lv' := [(7, .int x36), (0, .ref (a 0)), (1, .int b1), (2, .long v5), (4, .int v6), (5, .long v7), (8, .int v15), (9, .int x14), (10, .int v16)]) (pc := 282) C.1 C.2.1 dX9_search_282 hl (k := 5) rfl (by rw [ex36]; rfl) (by decide) rfl (fun ls hl => ?_)
                      exact hw _ _ _ h (lv_sub hl [1, 2, 3, 4, 5, 0, 6] rfl)
                    · have hw := hw.2 c35
                      refine lv_aload_n (pc := 168) C.1 C.2.1 dX9_search_168 rfl (lv_at hl 0 rfl) ?_
                      refine GM_X9_48_0 (pc := 169) C h dX9_search_169 ?_
                      refine lv_iload (pc := 172) C.1 C.2.1 dX9_search_172 (lv_at hl 7 rfl) ?_
                      refine lv_iconst (v := 1) (pc := 174) C.1 C.2.1 dX9_search_174 (by decide) ?_
                      refine stM_11 (pc := 175) C h hw.1 dX9_search_175 (fun z37 ez37 H locs h => ?_)
                      have hw := hw.2 z37 ez37
                      refine lv_aload_n (pc := 176) C.1 C.2.1 dX9_search_176 rfl (lv_at hl 0 rfl) ?_
                      refine GM_X9_51_0 (pc := 177) C h dX9_search_177 ?_
                      refine lv_iload (pc := 180) C.1 C.2.1 dX9_search_180 (lv_at hl 7 rfl) ?_
                      refine lv_iload (pc := 182) C.1 C.2.1 dX9_search_182 (lv_at hl 6 rfl) ?_
                      refine stM_12 (pc := 184) C h hw.1 dX9_search_184 (fun z38 ez38 H locs h => ?_)
                      have hw := hw.2 z38 ez38
                      refine lv_lload (pc := 185) C.1 C.2.1 dX9_search_185 (lv_at hl 4 rfl) ?_
                      refine lv_aload_n (pc := 187) C.1 C.2.1 dX9_search_187 rfl (lv_at hl 0 rfl) ?_
                      refine GM_X9_78_0 (pc := 188) C h dX9_search_188 ?_
                      refine lv_bipush (v := 24) (pc := 191) C.1 C.2.1 dX9_search_191 (by decide) ?_
                      refine lv_iload (pc := 193) C.1 C.2.1 dX9_search_193 (lv_at hl 5 rfl) ?_
                      refine lv_imul (pc := 195) C.1 C.2.1 dX9_search_195 ?_
                      refine lv_iload (pc := 196) C.1 C.2.1 dX9_search_196 (lv_at hl 6 rfl) ?_
                      refine lv_iadd (pc := 198) C.1 C.2.1 dX9_search_198 ?_
                      refine lv_aload_n (pc := 199) C.1 C.2.1 dX9_search_199 rfl (lv_at hl 0 rfl) ?_
                      refine GM_X9_36_0 (pc := 200) C h dX9_search_200 ?_
                      refine lv_iload (pc := 203) C.1 C.2.1 dX9_search_203 (lv_at hl 7 rfl) ?_
                      refine ldM_7 (pc := 205) C h hw.1 dX9_search_205 ?_
                      have hw := hw.2
                      refine lv_isub (pc := 206) C.1 C.2.1 dX9_search_206 ?_
                      refine ldM_21 (pc := 207) C h hw.1 dX9_search_207 ?_
                      have hw := hw.2
                      refine lv_ladd (pc := 208) C.1 C.2.1 dX9_search_208 ?_
                      refine lv_topl (fun x39 ex39 => ?_)
                      have hw := hw x39 ex39
                      refine lv_lstore (lv' := [(5, .long x39), (0, .ref (a 0)), (1, .int b1), (2, .long v5), (4, .int v6), (7, .int v8), (8, .int v15), (9, .int x14), (10, .int v16)]) (pc := 209) C.1 C.2.1 dX9_search_209 hl (by decide) rfl (fun ls hl => ?_)
                      refine lv_iload (pc := 211) C.1 C.2.1 dX9_search_211 (lv_at hl 5 rfl) ?_
                      refine lv_iload_n (pc := 213) C.1 C.2.1 dX9_search_213 rfl (lv_at hl 2 rfl) ?_
                      refine lv_iconst (v := 1) (pc := 214) C.1 C.2.1 dX9_search_214 (by decide) ?_
                      refine lv_isub (pc := 215) C.1 C.2.1 dX9_search_215 ?_
                      refine lv_icmp_ne (tgt := 262) (pc := 216) C.1 C.2.1 dX9_search_216 (by decide) (fun c40 => ?_) (fun c40 => ?_)
                      · have hw := hw.1 c40
                        obtain ⟨x41, ex41⟩ : ∃ y : Int32, y = v8 + (1) := ⟨_, rfl⟩
                        have hw := hw x41 ex41
                        refine lv_iinc (v := x41) (lv' := [(7, .int x41), (5, .long x39), (0, .ref (a 0)), (1, .int b1), (2, .long v5), (4, .int v6), (8, .int v15), (9, .int x14), (10, .int v16)]) (pc := 262) C.1 C.2.1 dX9_search_262 hl (k := 5) rfl (by rw [ex41]; rfl) (by decide) rfl (fun ls hl => ?_)
                        refine lv_aload_n (pc := 265) C.1 C.2.1 dX9_search_265 rfl (lv_at hl 2 rfl) ?_
                        refine GM_X9_36_0 (pc := 266) C h dX9_search_266 ?_
                        refine lv_aload_n (pc := 269) C.1 C.2.1 dX9_search_269 rfl (lv_at hl 2 rfl) ?_
                        refine GM_X9_69_0 (pc := 270) C h dX9_search_270 ?_
                        refine lv_iload (pc := 273) C.1 C.2.1 dX9_search_273 (lv_at hl 0 rfl) ?_
                        refine ldM_18 (pc := 275) C h hw.1 dX9_search_275 ?_
                        have hw := hw.2
                        refine ldM_7 (pc := 276) C h hw.1 dX9_search_276 ?_
                        have hw := hw.2
                        refine lv_topi (fun x42 ex42 => ?_)
                        have hw := hw x42 ex42
                        refine lv_istore (lv' := [(8, .int x42), (7, .int x41), (5, .long x39), (0, .ref (a 0)), (1, .int b1), (2, .long v5), (4, .int v6), (9, .int x14), (10, .int v16)]) (pc := 277) C.1 C.2.1 dX9_search_277 hl (by decide) rfl (fun ls hl => ?_)
                        refine lv_goto (tgt := 45) (pc := 279) C.1 C.2.1 dX9_search_279 (by decide) ?_
                        exact hw _ _ _ h (lv_sub hl [3, 4, 5, 6, 2, 1, 0] rfl)
                      · have hw := hw.2 c40
                        refine lv_iconst (v := 1) (pc := 219) C.1 C.2.1 dX9_search_219 (by decide) ?_
                        refine lv_istore (lv' := [(4, .int ((1 : Int32))), (5, .long x39), (0, .ref (a 0)), (1, .int b1), (2, .long v5), (7, .int v8), (8, .int v15), (9, .int x14), (10, .int v16)]) (pc := 220) C.1 C.2.1 dX9_search_220 hl (by decide) rfl (fun ls hl => ?_)
                        refine lv_lload (pc := 222) C.1 C.2.1 dX9_search_222 (lv_at hl 1 rfl) ?_
                        refine lv_lstore_n (lv' := [(2, .long x39), (4, .int ((1 : Int32))), (5, .long x39), (0, .ref (a 0)), (1, .int b1), (7, .int v8), (8, .int v15), (9, .int x14), (10, .int v16)]) (pc := 224) C.1 C.2.1 dX9_search_224 rfl hl (by decide) rfl (fun ls hl => ?_)
                        refine lv_iconst (v := 0) (pc := 225) C.1 C.2.1 dX9_search_225 (by decide) ?_
                        have hw := hw (fun (v43 : Int32) (z45 : St) => ∀ (H : Heap) (locs : List Loc) (ls : Array Slot), wd D t A s (wM t a z45) H locs → lv_has ls 13 [(0, .ref (a 0)), (1, .int b1), (2, .long x39), (4, .int ((1 : Int32))), (5, .long x39), (7, .int v8), (8, .int v15), (11, .int v43)] → W p l e (rmd 4) s m args below meth c H locs 0 0 (QL D t A (wM t a) P below args s) (F0 m 228 ls [])) (by
                            intro v43 z45 hw H locs ls h hl
                            refine lv_iload (pc := 228) C.1 C.2.1 dX9_search_228 (lv_at hl 7 rfl) ?_
                            refine lv_iload_n (pc := 230) C.1 C.2.1 dX9_search_230 rfl (lv_at hl 1 rfl) ?_
                            refine lv_icmp_ge (tgt := 259) (pc := 231) C.1 C.2.1 dX9_search_231 (by decide) (fun c46 => ?_) (fun c46 => ?_)
                            · have hw := hw.1 c46
                              refine lv_goto (tgt := 285) (pc := 259) C.1 C.2.1 dX9_search_259 (by decide) ?_
                              exact hw _ _ _ h (lv_sub hl [0, 1, 2, 3, 4, 5, 6] rfl)
                            · have hw := hw.2 c46
                              refine lv_aload_n (pc := 234) C.1 C.2.1 dX9_search_234 rfl (lv_at hl 0 rfl) ?_
                              refine GM_X9_85_0 (pc := 235) C h dX9_search_235 ?_
                              refine lv_iload (pc := 238) C.1 C.2.1 dX9_search_238 (lv_at hl 7 rfl) ?_
                              refine lv_aload_n (pc := 240) C.1 C.2.1 dX9_search_240 rfl (lv_at hl 0 rfl) ?_
                              refine GM_X9_51_0 (pc := 241) C h dX9_search_241 ?_
                              refine lv_aload_n (pc := 244) C.1 C.2.1 dX9_search_244 rfl (lv_at hl 0 rfl) ?_
                              refine GM_X9_69_0 (pc := 245) C h dX9_search_245 ?_
                              refine lv_iload (pc := 248) C.1 C.2.1 dX9_search_248 (lv_at hl 7 rfl) ?_
                              refine ldM_18 (pc := 250) C h hw.1 dX9_search_250 ?_
                              have hw := hw.2
                              refine ldM_12 (pc := 251) C h hw.1 dX9_search_251 ?_
                              have hw := hw.2
                              refine stM_23 (pc := 252) C h hw.1 dX9_search_252 (fun z47 ez47 H locs h => ?_)
                              have hw := hw.2 z47 ez47
                              obtain ⟨x48, ex48⟩ : ∃ y : Int32, y = v43 + (1) := ⟨_, rfl⟩
                              have hw := hw x48 ex48
                              refine lv_iinc (v := x48) (lv' := [(11, .int x48), (0, .ref (a 0)), (1, .int b1), (2, .long x39), (4, .int ((1 : Int32))), (5, .long x39), (7, .int v8), (8, .int v15)]) (pc := 253) C.1 C.2.1 dX9_search_253 hl (k := 7) rfl (by rw [ex48]; rfl) (by decide) rfl (fun ls hl => ?_)
                              refine lv_goto (tgt := 228) (pc := 256) C.1 C.2.1 dX9_search_256 (by decide) ?_
                              exact hw _ _ _ h (lv_sub hl [1, 2, 3, 4, 5, 6, 7, 0] rfl))
                        refine lv_istore (lv' := [(11, .int ((0 : Int32))), (2, .long x39), (4, .int ((1 : Int32))), (5, .long x39), (0, .ref (a 0)), (1, .int b1), (7, .int v8), (8, .int v15), (9, .int x14), (10, .int v16)]) (pc := 226) C.1 C.2.1 dX9_search_226 hl (by decide) rfl (fun ls hl => ?_)
                        exact hw _ _ _ h (lv_sub hl [4, 5, 1, 2, 3, 6, 7, 0] rfl))
                refine lv_icmp_gt (tgt := 163) (pc := 71) C.1 C.2.1 dX9_search_71 (by decide) (fun c49 => ?_) (fun c49 => ?_)
                · have hw := hw.1 c49
                  exact hw _ _ _ h (lv_sub hl [0, 1, 2, 3, 4, 5, 6, 7, 8] rfl)
                · have hw := hw.2 c49
                  refine lv_iload (pc := 74) C.1 C.2.1 dX9_search_74 (lv_at hl 8 rfl) ?_
                  refine lv_if_ne (tgt := 163) (pc := 76) C.1 C.2.1 dX9_search_76 (by decide) (fun c50 => ?_) (fun c50 => ?_)
                  · have hw := hw.1 c50
                    exact hw _ _ _ h (lv_sub hl [0, 1, 2, 3, 4, 5, 6, 7, 8] rfl)
                  · have hw := hw.2 c50
                    refine lv_lload (pc := 79) C.1 C.2.1 dX9_search_79 (lv_at hl 4 rfl) ?_
                    refine lv_aload_n (pc := 81) C.1 C.2.1 dX9_search_81 rfl (lv_at hl 0 rfl) ?_
                    refine GM_X9_78_0 (pc := 82) C h dX9_search_82 ?_
                    refine lv_bipush (v := 24) (pc := 85) C.1 C.2.1 dX9_search_85 (by decide) ?_
                    refine lv_iload (pc := 87) C.1 C.2.1 dX9_search_87 (lv_at hl 5 rfl) ?_
                    refine lv_imul (pc := 89) C.1 C.2.1 dX9_search_89 ?_
                    refine lv_iload (pc := 90) C.1 C.2.1 dX9_search_90 (lv_at hl 6 rfl) ?_
                    refine lv_iadd (pc := 92) C.1 C.2.1 dX9_search_92 ?_
                    refine lv_aload_n (pc := 93) C.1 C.2.1 dX9_search_93 rfl (lv_at hl 0 rfl) ?_
                    refine GM_X9_36_0 (pc := 94) C h dX9_search_94 ?_
                    refine lv_iload (pc := 97) C.1 C.2.1 dX9_search_97 (lv_at hl 7 rfl) ?_
                    refine ldM_7 (pc := 99) C h hw.1 dX9_search_99 ?_
                    have hw := hw.2
                    refine lv_isub (pc := 100) C.1 C.2.1 dX9_search_100 ?_
                    refine ldM_21 (pc := 101) C h hw.1 dX9_search_101 ?_
                    have hw := hw.2
                    refine lv_ladd (pc := 102) C.1 C.2.1 dX9_search_102 ?_
                    refine lv_topl (fun x51 ex51 => ?_)
                    have hw := hw x51 ex51
                    refine lv_lstore (lv' := [(11, .long x51), (0, .ref (a 0)), (1, .int b1), (2, .long v5), (4, .int v6), (5, .long v7), (7, .int v8), (8, .int v15), (9, .int x14), (10, .int v16)]) (pc := 103) C.1 C.2.1 dX9_search_103 hl (by decide) rfl (fun ls hl => ?_)
                    refine lv_iload (pc := 105) C.1 C.2.1 dX9_search_105 (lv_at hl 4 rfl) ?_
                    have hw := hw (fun (s52 : Int32) (z54 : St) => ∀ (H : Heap) (locs : List Loc) (ls : Array Slot), wd D t A s (wM t a z54) H locs → lv_has ls 13 [(0, .ref (a 0)), (1, .int b1), (2, .long v5), (4, .int v6), (5, .long v7), (7, .int v8), (8, .int v15), (9, .int x14)] → W p l e (rmd 4) s m args below meth c H locs 0 0 (QL D t A (wM t a) P below args s) (F0 m 143 ls [.int s52])) (by
                        intro s52 z54 hw H locs ls h hl
                        refine lv_istore (lv' := [(10, .int s52), (0, .ref (a 0)), (1, .int b1), (2, .long v5), (4, .int v6), (5, .long v7), (7, .int v8), (8, .int v15), (9, .int x14)]) (pc := 143) C.1 C.2.1 dX9_search_143 hl (by decide) rfl (fun ls hl => ?_)
                        refine lv_iload (pc := 145) C.1 C.2.1 dX9_search_145 (lv_at hl 7 rfl) ?_
                        refine lv_iload (pc := 147) C.1 C.2.1 dX9_search_147 (lv_at hl 0 rfl) ?_
                        have hw := hw (fun (s55 : Int32) (s56 : Int32) => ∀ (H : Heap) (locs : List Loc) (ls : Array Slot), wd D t A s (wM t a z54) H locs → lv_has ls 13 [(0, .ref (a 0)), (1, .int b1), (2, .long v5), (4, .int v6), (5, .long v7), (7, .int v8), (9, .int x14), (10, .int s52)] → W p l e (rmd 4) s m args below meth c H locs 0 0 (QL D t A (wM t a) P below args s) (F0 m 157 ls [.int s55, .int s56])) (by
                            intro s55 s56 hw H locs ls h hl
                            refine lv_iadd (pc := 157) C.1 C.2.1 dX9_search_157 ?_
                            refine lv_topi (fun x58 ex58 => ?_)
                            have hw := hw x58 ex58
                            refine lv_istore (lv' := [(8, .int x58), (0, .ref (a 0)), (1, .int b1), (2, .long v5), (4, .int v6), (5, .long v7), (7, .int v8), (9, .int x14), (10, .int s52)]) (pc := 158) C.1 C.2.1 dX9_search_158 hl (by decide) rfl (fun ls hl => ?_)
                            refine lv_goto (tgt := 62) (pc := 160) C.1 C.2.1 dX9_search_160 (by decide) ?_
                            exact hw _ _ _ h (lv_sub hl [1, 2, 3, 4, 5, 6, 0, 7, 8] rfl))
                        refine lv_if_eq (tgt := 156) (pc := 149) C.1 C.2.1 dX9_search_149 (by decide) (fun c59 => ?_) (fun c59 => ?_)
                        · have hw := hw.1 c59
                          refine lv_iconst (v := 1) (pc := 156) C.1 C.2.1 dX9_search_156 (by decide) ?_
                          exact hw _ _ _ h (lv_sub hl [1, 2, 3, 4, 5, 6, 8, 0] rfl)
                        · have hw := hw.2 c59
                          refine lv_iconst (v := 0) (pc := 152) C.1 C.2.1 dX9_search_152 (by decide) ?_
                          refine lv_goto (tgt := 157) (pc := 153) C.1 C.2.1 dX9_search_153 (by decide) ?_
                          exact hw _ _ _ h (lv_sub hl [1, 2, 3, 4, 5, 6, 8, 0] rfl))
                    have hw := hw (fun (z61 : St) => ∀ (H : Heap) (locs : List Loc) (ls : Array Slot), wd D t A s (wM t a z61) H locs → lv_has ls 13 [(0, .ref (a 0)), (1, .int b1), (2, .long v5), (4, .int v6), (5, .long v7), (7, .int v8), (8, .int v15), (9, .int x14)] → W p l e (rmd 4) s m args below meth c H locs 0 0 (QL D t A (wM t a) P below args s) (F0 m 142 ls [])) (by
                        intro z61 hw H locs ls h hl
                        refine lv_iconst (v := 0) (pc := 142) C.1 C.2.1 dX9_search_142 (by decide) ?_
                        exact hw _ _ _ h (lv_sub hl [0, 1, 2, 3, 4, 5, 6, 7] rfl))
                    have hw := hw (∀ (H : Heap) (locs : List Loc) (ls : Array Slot), wd D t A s (wM t a z18) H locs → lv_has ls 13 [(0, .ref (a 0)), (1, .int b1), (2, .long v5), (4, .int v6), (5, .long v7), (7, .int v8), (8, .int v15), (9, .int x14)] → W p l e (rmd 4) s m args below meth c H locs 0 0 (QL D t A (wM t a) P below args s) (F0 m 127 ls [])) (by
                        intro hw H locs ls h hl
                        refine lv_aload_n (pc := 127) C.1 C.2.1 dX9_search_127 rfl (lv_at hl 0 rfl) ?_
                        refine lv_iload (pc := 128) C.1 C.2.1 dX9_search_128 (lv_at hl 7 rfl) ?_
                        refine lv_iload (pc := 130) C.1 C.2.1 dX9_search_130 (lv_at hl 6 rfl) ?_
                        refine cl_vi (pc := 132) (As := [.int x14, .int v15]) (rest := []) C h (m_X9_mayBegin l D t a x14 v15 z18 _ hw) mw_X9_mayBegin lm_X9_220 md_X9_mayBegin rcM_0 ⟨by decide, by decide⟩ ⟨Nat.zero_le _, Nat.zero_le _⟩ hl.1 rfl (Nat.le_of_ble_eq_true rfl) dX9_search_132 (fun r64 z63 H locs hw h => ?_)
                        refine lv_if_eq (tgt := 142) (pc := 135) C.1 C.2.1 dX9_search_135 (by decide) (fun c65 => ?_) (fun c65 => ?_)
                        · have hw := hw.1 c65
                          exact hw _ _ _ h (lv_sub hl [0, 1, 2, 3, 4, 5, 6, 7] rfl)
                        · have hw := hw.2 c65
                          refine lv_iconst (v := 1) (pc := 138) C.1 C.2.1 dX9_search_138 (by decide) ?_
                          refine lv_goto (tgt := 143) (pc := 139) C.1 C.2.1 dX9_search_139 (by decide) ?_
                          exact hw _ _ _ h (lv_sub hl [0, 1, 2, 3, 4, 5, 6, 7] rfl))
                    refine lv_if_eq (tgt := 127) (pc := 107) C.1 C.2.1 dX9_search_107 (by decide) (fun c66 => ?_) (fun c66 => ?_)
                    · have hw := hw.1 c66
                      exact hw _ _ _ h (lv_sub hl [1, 2, 3, 4, 5, 6, 7, 8] rfl)
                    · have hw := hw.2 c66
                      refine lv_lload (pc := 110) C.1 C.2.1 dX9_search_110 (lv_at hl 0 rfl) ?_
                      refine lv_aload_n (pc := 112) C.1 C.2.1 dX9_search_112 rfl (lv_at hl 1 rfl) ?_
                      refine GM_X9_82_0 (pc := 113) C h dX9_search_113 ?_
                      refine lv_iload (pc := 116) C.1 C.2.1 dX9_search_116 (lv_at hl 6 rfl) ?_
                      refine lv_iconst (v := 1) (pc := 118) C.1 C.2.1 dX9_search_118 (by decide) ?_
                      refine lv_iadd (pc := 119) C.1 C.2.1 dX9_search_119 ?_
                      refine ldM_22 (pc := 120) C h hw.1 dX9_search_120 ?_
                      have hw := hw.2
                      refine lv_ladd (pc := 121) C.1 C.2.1 dX9_search_121 ?_
                      refine lv_lload_n (pc := 122) C.1 C.2.1 dX9_search_122 rfl (lv_at hl 3 rfl) ?_
                      refine W.lcmp (pc := 123) C.1 C.2.1 dX9_search_123 ?_
                      refine lv_if_ge (tgt := 142) (pc := 124) C.1 C.2.1 dX9_search_124 (by decide) (fun c67 => ?_) (fun c67 => ?_)
                      · have hw := hw.1 c67
                        exact hw _ _ _ h (lv_sub hl [1, 2, 3, 4, 5, 6, 7, 8] rfl)
                      · have hw := hw.2 c67
                        exact hw _ _ _ h (lv_sub hl [1, 2, 3, 4, 5, 6, 7, 8] rfl))
            refine lv_istore (lv' := [(10, .int ((0 : Int32))), (9, .int x14), (0, .ref (a 0)), (1, .int b1), (2, .long v5), (4, .int v6), (5, .long v7), (7, .int v8), (8, .int v9)]) (pc := 60) C.1 C.2.1 dX9_search_60 hl (by decide) rfl (fun ls hl => ?_)
            exact hw _ _ _ h (lv_sub hl [2, 3, 4, 5, 6, 7, 8, 1, 0] rfl))
      refine lv_if_ne (tgt := 45) (pc := 40) C.1 C.2.1 dX9_search_40 (by decide) (fun c68 => ?_) (fun c68 => ?_)
      · have hw := hw.1 c68
        exact hw _ _ _ h (lv_sub hl [1, 2, 3, 4, 5, 6, 0] rfl)
      · have hw := hw.2 c68
        refine lv_lconst (v := 0) (pc := 43) C.1 C.2.1 dX9_search_43 (by decide) ?_
        exact rt_l (pc := 44) C hr hlk h hw dX9_search_44)
  refine lv_if_ne (tgt := 26) (pc := 19) C.1 C.2.1 dX9_search_19 (by decide) (fun c69 => ?_) (fun c69 => ?_)
  · have hw := hw.1 c69
    refine lv_aload_n (pc := 26) C.1 C.2.1 dX9_search_26 rfl (lv_at hl 4 rfl) ?_
    refine GM_X9_36_0 (pc := 27) C h dX9_search_27 ?_
    refine lv_aload_n (pc := 30) C.1 C.2.1 dX9_search_30 rfl (lv_at hl 4 rfl) ?_
    refine GM_X9_69_0 (pc := 31) C h dX9_search_31 ?_
    refine lv_iconst (v := 0) (pc := 34) C.1 C.2.1 dX9_search_34 (by decide) ?_
    refine ldM_18 (pc := 35) C h hw.1 dX9_search_35 ?_
    have hw := hw.2
    refine ldM_7 (pc := 36) C h hw.1 dX9_search_36 ?_
    have hw := hw.2
    exact hw _ _ _ h (lv_sub hl [4, 5, 3, 2, 1, 0] rfl)
  · have hw := hw.2 c69
    refine lv_iconst (v := 0) (pc := 22) C.1 C.2.1 dX9_search_22 (by decide) ?_
    refine lv_goto (tgt := 37) (pc := 23) C.1 C.2.1 dX9_search_23 (by decide) ?_
    exact hw _ _ _ h (lv_sub hl [4, 5, 3, 2, 1, 0] rfl)

def wp_X9_whole  (z : St) (P : Int64 → St → Prop) : Prop :=
  (∀ z1 : St, z1 = wI z 0 ((0 : Int32)) → (∀ K4 : Int32 → Int32 → St → Prop, (∀ (v2 : Int32) (v3 : Int32) (z5 : St), ((((gI z5 12) ≤ v3) → (∀ K8 : Int32 → St → Prop, (∀ (v7 : Int32) (z9 : St), ((((gI z9 12) ≤ v7) → (wp_X9_search v2 z9 (fun r12 z11 => (((¬ (lg_cmp r12 ((-4000000000000000000 : Int64))) = 0) → (∀ K15 : Int32 → St → Prop, (∀ (v14 : Int32) (z16 : St), (((v2 ≤ v14) → (∀ z18 : St, z18 = wI z16 1 ((0 : Int32)) → P r12 z18)) ∧ (¬ (v2 ≤ v14) → (vp_in v14 5 ∧ (vp_in (gF z16 18 v14.toNatClampNeg) 16 ∧ (∀ z19 : St, z19 = wR z16 11 (upd (gF z16 11) (gF z16 18 v14.toNatClampNeg).toNatClampNeg ((1 : Int32))) → (vp_in v14 5 ∧ (vp_in v14 5 ∧ (vp_in (gF z19 18 v14.toNatClampNeg) 16 ∧ (∀ z20 : St, z20 = wR z19 12 (upd (gF z19 12) (gF z19 18 v14.toNatClampNeg).toNatClampNeg (gF z19 23 v14.toNatClampNeg)) → (∀ x21 : Int32, x21 = v14 + (1) → K15 x21 z20)))))))))) → K15 v14 z16) → K15 ((0 : Int32)) z11)) ∧ ((lg_cmp r12 ((-4000000000000000000 : Int64))) = 0 → (∀ K23 : Int32 → St → Prop, (∀ (v22 : Int32) (z24 : St), ((((gI z24 12) ≤ v22) → (∀ z26 : St, z26 = wI z24 1 ((-6 : Int32)) → P ((-4000000000000000006 : Int64)) z26)) ∧ (¬ ((gI z24 12) ≤ v22) → (vp_in v22 16 ∧ (vp_in v22 16 ∧ (∀ z27 : St, z27 = wR z24 11 (upd (gF z24 11) v22.toNatClampNeg (gF z24 19 v22.toNatClampNeg)) → (vp_in v22 16 ∧ (vp_in v22 16 ∧ (∀ z28 : St, z28 = wR z27 12 (upd (gF z27 12) v22.toNatClampNeg (gF z27 20 v22.toNatClampNeg)) → (∀ x29 : Int32, x29 = v22 + (1) → K23 x29 z28))))))))) → K23 v22 z24) → K23 ((0 : Int32)) z11)))))) ∧ (¬ ((gI z9 12) ≤ v7) → (vp_in v7 16 ∧ (vp_in v7 16 ∧ (∀ z30 : St, z30 = wR z9 19 (upd (gF z9 19) v7.toNatClampNeg (gF z9 11 v7.toNatClampNeg)) → (vp_in v7 16 ∧ (vp_in v7 16 ∧ (∀ z31 : St, z31 = wR z30 20 (upd (gF z30 20) v7.toNatClampNeg (gF z30 12 v7.toNatClampNeg)) → (vp_in v7 16 ∧ (∀ K34 : Int32 → Int32 → Prop, (∀ (s32 : Int32) (s33 : Int32), (vp_in s33 16 ∧ (∀ z35 : St, z35 = wR z31 11 (upd (gF z31 11) s33.toNatClampNeg s32) → (∀ x36 : Int32, x36 = v7 + (1) → K8 x36 z35))) → K34 s32 s33) → (((¬ (gF z31 11 v7.toNatClampNeg) = ((2 : Int32))) → K34 ((0 : Int32)) v7) ∧ ((gF z31 11 v7.toNatClampNeg) = ((2 : Int32)) → K34 ((2 : Int32)) v7)))))))))))) → K8 v7 z9) → K8 ((0 : Int32)) z5)) ∧ (¬ ((gI z5 12) ≤ v3) → (vp_in v3 16 ∧ (∀ K39 : Int32 → St → Prop, (∀ (v38 : Int32) (z40 : St), (∀ x41 : Int32, x41 = v3 + (1) → K4 v38 x41 z40) → K39 v38 z40) → ((((gF z5 11 v3.toNatClampNeg) = ((2 : Int32))) → K39 v2 z5) ∧ (¬ ((gF z5 11 v3.toNatClampNeg) = ((2 : Int32))) → (((¬ v2 = ((5 : Int32))) → (vp_in v2 5 ∧ (∀ z44 : St, z44 = wR z5 18 (upd (gF z5 18) v2.toNatClampNeg v3) → (∀ x45 : Int32, x45 = v2 + (1) → K39 x45 z44)))) ∧ (v2 = ((5 : Int32)) → (∀ z46 : St, z46 = wI z5 1 ((-5 : Int32)) → P ((-4000000000000000005 : Int64)) z46))))))))) → K4 v2 v3 z5) → K4 ((0 : Int32)) ((0 : Int32)) z1))
set_option maxHeartbeats 4000000 in
set_option maxRecDepth 100000 in
theorem m_X9_whole (l : Launch) (D : va_G) (t : Ty3) (a : Nat → Nat)  (z : St) (P : Int64 → St → Prop) (hw : wp_X9_whole z P) : CtL l D t yX9_whole cX9_whole 5 (some .long) 5 (wM t a) (wM t a z) [.ref (a 0)] P := by
  refine ctL_of (by decide) (Nat.le_of_ble_eq_true rfl) ?_
  intro p e s m args below meth c A ls C hr hlk h hl
  have hl : lv_has ls 5 [(0, .ref (a 0))] := hl
  unfold wp_X9_whole at hw
  refine lv_aload_n (pc := 0) C.1 C.2.1 dX9_whole_0 rfl (lv_at hl 0 rfl) ?_
  refine lv_iconst (v := 0) (pc := 1) C.1 C.2.1 dX9_whole_1 (by decide) ?_
  refine PM_X9_131_0 (pc := 2) C h dX9_whole_2 (fun z1 ez1 H locs h => ?_)
  have hw := hw z1 ez1
  refine lv_iconst (v := 0) (pc := 5) C.1 C.2.1 dX9_whole_5 (by decide) ?_
  refine lv_istore_n (lv' := [(1, .int ((0 : Int32))), (0, .ref (a 0))]) (pc := 6) C.1 C.2.1 dX9_whole_6 rfl hl (by decide) rfl (fun ls hl => ?_)
  refine lv_iconst (v := 0) (pc := 7) C.1 C.2.1 dX9_whole_7 (by decide) ?_
  have hw := hw (fun (v2 : Int32) (v3 : Int32) (z5 : St) => ∀ (H : Heap) (locs : List Loc) (ls : Array Slot), wd D t A s (wM t a z5) H locs → lv_has ls 5 [(0, .ref (a 0)), (1, .int v2), (2, .int v3)] → W p l e (rmd 5) s m args below meth c H locs 0 0 (QL D t A (wM t a) P below args s) (F0 m 9 ls [])) (by
      intro v2 v3 z5 hw H locs ls h hl
      refine lv_iload_n (pc := 9) C.1 C.2.1 dX9_whole_9 rfl (lv_at hl 2 rfl) ?_
      refine lv_aload_n (pc := 10) C.1 C.2.1 dX9_whole_10 rfl (lv_at hl 0 rfl) ?_
      refine GM_X9_148_0 (pc := 11) C h dX9_whole_11 ?_
      refine lv_icmp_ge (tgt := 58) (pc := 14) C.1 C.2.1 dX9_whole_14 (by decide) (fun c6 => ?_) (fun c6 => ?_)
      · have hw := hw.1 c6
        refine lv_iconst (v := 0) (pc := 58) C.1 C.2.1 dX9_whole_58 (by decide) ?_
        have hw := hw (fun (v7 : Int32) (z9 : St) => ∀ (H : Heap) (locs : List Loc) (ls : Array Slot), wd D t A s (wM t a z9) H locs → lv_has ls 5 [(0, .ref (a 0)), (1, .int v2), (2, .int v7)] → W p l e (rmd 5) s m args below meth c H locs 0 0 (QL D t A (wM t a) P below args s) (F0 m 60 ls [])) (by
            intro v7 z9 hw H locs ls h hl
            refine lv_iload_n (pc := 60) C.1 C.2.1 dX9_whole_60 rfl (lv_at hl 2 rfl) ?_
            refine lv_aload_n (pc := 61) C.1 C.2.1 dX9_whole_61 rfl (lv_at hl 0 rfl) ?_
            refine GM_X9_148_0 (pc := 62) C h dX9_whole_62 ?_
            refine lv_icmp_ge (tgt := 119) (pc := 65) C.1 C.2.1 dX9_whole_65 (by decide) (fun c10 => ?_) (fun c10 => ?_)
            · have hw := hw.1 c10
              refine lv_aload_n (pc := 119) C.1 C.2.1 dX9_whole_119 rfl (lv_at hl 0 rfl) ?_
              refine lv_iload_n (pc := 120) C.1 C.2.1 dX9_whole_120 rfl (lv_at hl 1 rfl) ?_
              refine cl_vl (pc := 121) (As := [.int v2]) (rest := []) C h (m_X9_search l D t a v2 z9 _ hw) mw_X9_search lm_X9_225 md_X9_search rcM_0 ⟨by decide, by decide⟩ ⟨Nat.zero_le _, Nat.zero_le _⟩ hl.1 rfl (Nat.le_of_ble_eq_true rfl) dX9_whole_121 (fun r12 z11 H locs hw h => ?_)
              refine lv_lstore_n (lv' := [(2, .long r12), (0, .ref (a 0)), (1, .int v2)]) (pc := 124) C.1 C.2.1 dX9_whole_124 rfl hl (by decide) rfl (fun ls hl => ?_)
              refine lv_lload_n (pc := 125) C.1 C.2.1 dX9_whole_125 rfl (lv_at hl 0 rfl) ?_
              refine lv_ldc2 (pc := 126) C.1 C.2.1 C.2.2.2.1 (C.2.2.2.2 _ lc_X9_229) dX9_whole_126 ?_
              refine W.lcmp (pc := 129) C.1 C.2.1 dX9_whole_129 ?_
              refine lv_if_ne (tgt := 189) (pc := 130) C.1 C.2.1 dX9_whole_130 (by decide) (fun c13 => ?_) (fun c13 => ?_)
              · have hw := hw.1 c13
                refine lv_iconst (v := 0) (pc := 189) C.1 C.2.1 dX9_whole_189 (by decide) ?_
                have hw := hw (fun (v14 : Int32) (z16 : St) => ∀ (H : Heap) (locs : List Loc) (ls : Array Slot), wd D t A s (wM t a z16) H locs → lv_has ls 5 [(0, .ref (a 0)), (1, .int v2), (2, .long r12), (4, .int v14)] → W p l e (rmd 5) s m args below meth c H locs 0 0 (QL D t A (wM t a) P below args s) (F0 m 192 ls [])) (by
                    intro v14 z16 hw H locs ls h hl
                    refine lv_iload (pc := 192) C.1 C.2.1 dX9_whole_192 (lv_at hl 3 rfl) ?_
                    refine lv_iload_n (pc := 194) C.1 C.2.1 dX9_whole_194 rfl (lv_at hl 1 rfl) ?_
                    refine lv_icmp_ge (tgt := 236) (pc := 195) C.1 C.2.1 dX9_whole_195 (by decide) (fun c17 => ?_) (fun c17 => ?_)
                    · have hw := hw.1 c17
                      refine lv_aload_n (pc := 236) C.1 C.2.1 dX9_whole_236 rfl (lv_at hl 0 rfl) ?_
                      refine lv_iconst (v := 0) (pc := 237) C.1 C.2.1 dX9_whole_237 (by decide) ?_
                      refine PM_X9_134_0 (pc := 238) C h dX9_whole_238 (fun z18 ez18 H locs h => ?_)
                      have hw := hw z18 ez18
                      refine lv_lload_n (pc := 241) C.1 C.2.1 dX9_whole_241 rfl (lv_at hl 2 rfl) ?_
                      exact rt_l (pc := 242) C hr hlk h hw dX9_whole_242
                    · have hw := hw.2 c17
                      refine lv_aload_n (pc := 198) C.1 C.2.1 dX9_whole_198 rfl (lv_at hl 0 rfl) ?_
                      refine GM_X9_48_0 (pc := 199) C h dX9_whole_199 ?_
                      refine lv_aload_n (pc := 202) C.1 C.2.1 dX9_whole_202 rfl (lv_at hl 0 rfl) ?_
                      refine GM_X9_69_0 (pc := 203) C h dX9_whole_203 ?_
                      refine lv_iload (pc := 206) C.1 C.2.1 dX9_whole_206 (lv_at hl 3 rfl) ?_
                      refine ldM_18 (pc := 208) C h hw.1 dX9_whole_208 ?_
                      have hw := hw.2
                      refine lv_iconst (v := 1) (pc := 209) C.1 C.2.1 dX9_whole_209 (by decide) ?_
                      refine stM_11 (pc := 210) C h hw.1 dX9_whole_210 (fun z19 ez19 H locs h => ?_)
                      have hw := hw.2 z19 ez19
                      refine lv_aload_n (pc := 211) C.1 C.2.1 dX9_whole_211 rfl (lv_at hl 0 rfl) ?_
                      refine GM_X9_51_0 (pc := 212) C h dX9_whole_212 ?_
                      refine lv_aload_n (pc := 215) C.1 C.2.1 dX9_whole_215 rfl (lv_at hl 0 rfl) ?_
                      refine GM_X9_69_0 (pc := 216) C h dX9_whole_216 ?_
                      refine lv_iload (pc := 219) C.1 C.2.1 dX9_whole_219 (lv_at hl 3 rfl) ?_
                      refine ldM_18 (pc := 221) C h hw.1 dX9_whole_221 ?_
                      have hw := hw.2
                      refine lv_aload_n (pc := 222) C.1 C.2.1 dX9_whole_222 rfl (lv_at hl 0 rfl) ?_
                      refine GM_X9_85_0 (pc := 223) C h dX9_whole_223 ?_
                      refine lv_iload (pc := 226) C.1 C.2.1 dX9_whole_226 (lv_at hl 3 rfl) ?_
                      refine ldM_23 (pc := 228) C h hw.1 dX9_whole_228 ?_
                      have hw := hw.2
                      refine stM_12 (pc := 229) C h hw.1 dX9_whole_229 (fun z20 ez20 H locs h => ?_)
                      have hw := hw.2 z20 ez20
                      obtain ⟨x21, ex21⟩ : ∃ y : Int32, y = v14 + (1) := ⟨_, rfl⟩
                      have hw := hw x21 ex21
                      refine lv_iinc (v := x21) (lv' := [(4, .int x21), (0, .ref (a 0)), (1, .int v2), (2, .long r12)]) (pc := 230) C.1 C.2.1 dX9_whole_230 hl (k := 3) rfl (by rw [ex21]; rfl) (by decide) rfl (fun ls hl => ?_)
                      refine lv_goto (tgt := 192) (pc := 233) C.1 C.2.1 dX9_whole_233 (by decide) ?_
                      exact hw _ _ _ h (lv_sub hl [1, 2, 3, 0] rfl))
                refine lv_istore (lv' := [(4, .int ((0 : Int32))), (2, .long r12), (0, .ref (a 0)), (1, .int v2)]) (pc := 190) C.1 C.2.1 dX9_whole_190 hl (by decide) rfl (fun ls hl => ?_)
                exact hw _ _ _ h (lv_sub hl [2, 3, 1, 0] rfl)
              · have hw := hw.2 c13
                refine lv_iconst (v := 0) (pc := 133) C.1 C.2.1 dX9_whole_133 (by decide) ?_
                have hw := hw (fun (v22 : Int32) (z24 : St) => ∀ (H : Heap) (locs : List Loc) (ls : Array Slot), wd D t A s (wM t a z24) H locs → lv_has ls 5 [(0, .ref (a 0)), (4, .int v22)] → W p l e (rmd 5) s m args below meth c H locs 0 0 (QL D t A (wM t a) P below args s) (F0 m 136 ls [])) (by
                    intro v22 z24 hw H locs ls h hl
                    refine lv_iload (pc := 136) C.1 C.2.1 dX9_whole_136 (lv_at hl 1 rfl) ?_
                    refine lv_aload_n (pc := 138) C.1 C.2.1 dX9_whole_138 rfl (lv_at hl 0 rfl) ?_
                    refine GM_X9_148_0 (pc := 139) C h dX9_whole_139 ?_
                    refine lv_icmp_ge (tgt := 179) (pc := 142) C.1 C.2.1 dX9_whole_142 (by decide) (fun c25 => ?_) (fun c25 => ?_)
                    · have hw := hw.1 c25
                      refine lv_aload_n (pc := 179) C.1 C.2.1 dX9_whole_179 rfl (lv_at hl 0 rfl) ?_
                      refine lv_bipush (v := -6) (pc := 180) C.1 C.2.1 dX9_whole_180 (by decide) ?_
                      refine PM_X9_134_0 (pc := 182) C h dX9_whole_182 (fun z26 ez26 H locs h => ?_)
                      have hw := hw z26 ez26
                      refine lv_ldc2 (pc := 185) C.1 C.2.1 C.2.2.2.1 (C.2.2.2.2 _ lc_X9_231) dX9_whole_185 ?_
                      exact rt_l (pc := 188) C hr hlk h hw dX9_whole_188
                    · have hw := hw.2 c25
                      refine lv_aload_n (pc := 145) C.1 C.2.1 dX9_whole_145 rfl (lv_at hl 0 rfl) ?_
                      refine GM_X9_48_0 (pc := 146) C h dX9_whole_146 ?_
                      refine lv_iload (pc := 149) C.1 C.2.1 dX9_whole_149 (lv_at hl 1 rfl) ?_
                      refine lv_aload_n (pc := 151) C.1 C.2.1 dX9_whole_151 rfl (lv_at hl 0 rfl) ?_
                      refine GM_X9_72_0 (pc := 152) C h dX9_whole_152 ?_
                      refine lv_iload (pc := 155) C.1 C.2.1 dX9_whole_155 (lv_at hl 1 rfl) ?_
                      refine ldM_19 (pc := 157) C h hw.1 dX9_whole_157 ?_
                      have hw := hw.2
                      refine stM_11 (pc := 158) C h hw.1 dX9_whole_158 (fun z27 ez27 H locs h => ?_)
                      have hw := hw.2 z27 ez27
                      refine lv_aload_n (pc := 159) C.1 C.2.1 dX9_whole_159 rfl (lv_at hl 0 rfl) ?_
                      refine GM_X9_51_0 (pc := 160) C h dX9_whole_160 ?_
                      refine lv_iload (pc := 163) C.1 C.2.1 dX9_whole_163 (lv_at hl 1 rfl) ?_
                      refine lv_aload_n (pc := 165) C.1 C.2.1 dX9_whole_165 rfl (lv_at hl 0 rfl) ?_
                      refine GM_X9_75_0 (pc := 166) C h dX9_whole_166 ?_
                      refine lv_iload (pc := 169) C.1 C.2.1 dX9_whole_169 (lv_at hl 1 rfl) ?_
                      refine ldM_20 (pc := 171) C h hw.1 dX9_whole_171 ?_
                      have hw := hw.2
                      refine stM_12 (pc := 172) C h hw.1 dX9_whole_172 (fun z28 ez28 H locs h => ?_)
                      have hw := hw.2 z28 ez28
                      obtain ⟨x29, ex29⟩ : ∃ y : Int32, y = v22 + (1) := ⟨_, rfl⟩
                      have hw := hw x29 ex29
                      refine lv_iinc (v := x29) (lv' := [(4, .int x29), (0, .ref (a 0))]) (pc := 173) C.1 C.2.1 dX9_whole_173 hl (k := 1) rfl (by rw [ex29]; rfl) (by decide) rfl (fun ls hl => ?_)
                      refine lv_goto (tgt := 136) (pc := 176) C.1 C.2.1 dX9_whole_176 (by decide) ?_
                      exact hw _ _ _ h (lv_sub hl [1, 0] rfl))
                refine lv_istore (lv' := [(4, .int ((0 : Int32))), (2, .long r12), (0, .ref (a 0)), (1, .int v2)]) (pc := 134) C.1 C.2.1 dX9_whole_134 hl (by decide) rfl (fun ls hl => ?_)
                exact hw _ _ _ h (lv_sub hl [2, 0] rfl)
            · have hw := hw.2 c10
              refine lv_aload_n (pc := 68) C.1 C.2.1 dX9_whole_68 rfl (lv_at hl 0 rfl) ?_
              refine GM_X9_72_0 (pc := 69) C h dX9_whole_69 ?_
              refine lv_iload_n (pc := 72) C.1 C.2.1 dX9_whole_72 rfl (lv_at hl 2 rfl) ?_
              refine lv_aload_n (pc := 73) C.1 C.2.1 dX9_whole_73 rfl (lv_at hl 0 rfl) ?_
              refine GM_X9_48_0 (pc := 74) C h dX9_whole_74 ?_
              refine lv_iload_n (pc := 77) C.1 C.2.1 dX9_whole_77 rfl (lv_at hl 2 rfl) ?_
              refine ldM_11 (pc := 78) C h hw.1 dX9_whole_78 ?_
              have hw := hw.2
              refine stM_19 (pc := 79) C h hw.1 dX9_whole_79 (fun z30 ez30 H locs h => ?_)
              have hw := hw.2 z30 ez30
              refine lv_aload_n (pc := 80) C.1 C.2.1 dX9_whole_80 rfl (lv_at hl 0 rfl) ?_
              refine GM_X9_75_0 (pc := 81) C h dX9_whole_81 ?_
              refine lv_iload_n (pc := 84) C.1 C.2.1 dX9_whole_84 rfl (lv_at hl 2 rfl) ?_
              refine lv_aload_n (pc := 85) C.1 C.2.1 dX9_whole_85 rfl (lv_at hl 0 rfl) ?_
              refine GM_X9_51_0 (pc := 86) C h dX9_whole_86 ?_
              refine lv_iload_n (pc := 89) C.1 C.2.1 dX9_whole_89 rfl (lv_at hl 2 rfl) ?_
              refine ldM_12 (pc := 90) C h hw.1 dX9_whole_90 ?_
              have hw := hw.2
              refine stM_20 (pc := 91) C h hw.1 dX9_whole_91 (fun z31 ez31 H locs h => ?_)
              have hw := hw.2 z31 ez31
              refine lv_aload_n (pc := 92) C.1 C.2.1 dX9_whole_92 rfl (lv_at hl 0 rfl) ?_
              refine GM_X9_48_0 (pc := 93) C h dX9_whole_93 ?_
              refine lv_iload_n (pc := 96) C.1 C.2.1 dX9_whole_96 rfl (lv_at hl 2 rfl) ?_
              refine lv_aload_n (pc := 97) C.1 C.2.1 dX9_whole_97 rfl (lv_at hl 0 rfl) ?_
              refine GM_X9_48_0 (pc := 98) C h dX9_whole_98 ?_
              refine lv_iload_n (pc := 101) C.1 C.2.1 dX9_whole_101 rfl (lv_at hl 2 rfl) ?_
              refine ldM_11 (pc := 102) C h hw.1 dX9_whole_102 ?_
              have hw := hw.2
              refine lv_iconst (v := 2) (pc := 103) C.1 C.2.1 dX9_whole_103 (by decide) ?_
              have hw := hw (fun (s32 : Int32) (s33 : Int32) => ∀ (H : Heap) (locs : List Loc) (ls : Array Slot), wd D t A s (wM t a z31) H locs → lv_has ls 5 [(0, .ref (a 0)), (1, .int v2), (2, .int v7)] → W p l e (rmd 5) s m args below meth c H locs 0 0 (QL D t A (wM t a) P below args s) (F0 m 112 ls [.int s32, .int s33, .ref (a 11)])) (by
                  intro s32 s33 hw H locs ls h hl
                  refine stM_11 (pc := 112) C h hw.1 dX9_whole_112 (fun z35 ez35 H locs h => ?_)
                  have hw := hw.2 z35 ez35
                  obtain ⟨x36, ex36⟩ : ∃ y : Int32, y = v7 + (1) := ⟨_, rfl⟩
                  have hw := hw x36 ex36
                  refine lv_iinc (v := x36) (lv' := [(2, .int x36), (0, .ref (a 0)), (1, .int v2)]) (pc := 113) C.1 C.2.1 dX9_whole_113 hl (k := 2) rfl (by rw [ex36]; rfl) (by decide) rfl (fun ls hl => ?_)
                  refine lv_goto (tgt := 60) (pc := 116) C.1 C.2.1 dX9_whole_116 (by decide) ?_
                  exact hw _ _ _ h (lv_sub hl [1, 2, 0] rfl))
              refine lv_icmp_ne (tgt := 111) (pc := 104) C.1 C.2.1 dX9_whole_104 (by decide) (fun c37 => ?_) (fun c37 => ?_)
              · have hw := hw.1 c37
                refine lv_iconst (v := 0) (pc := 111) C.1 C.2.1 dX9_whole_111 (by decide) ?_
                exact hw _ _ _ h (lv_sub hl [0, 1, 2] rfl)
              · have hw := hw.2 c37
                refine lv_iconst (v := 2) (pc := 107) C.1 C.2.1 dX9_whole_107 (by decide) ?_
                refine lv_goto (tgt := 112) (pc := 108) C.1 C.2.1 dX9_whole_108 (by decide) ?_
                exact hw _ _ _ h (lv_sub hl [0, 1, 2] rfl))
        refine lv_istore_n (lv' := [(2, .int ((0 : Int32))), (0, .ref (a 0)), (1, .int v2)]) (pc := 59) C.1 C.2.1 dX9_whole_59 rfl hl (by decide) rfl (fun ls hl => ?_)
        exact hw _ _ _ h (lv_sub hl [1, 2, 0] rfl)
      · have hw := hw.2 c6
        refine lv_aload_n (pc := 17) C.1 C.2.1 dX9_whole_17 rfl (lv_at hl 0 rfl) ?_
        refine GM_X9_48_0 (pc := 18) C h dX9_whole_18 ?_
        refine lv_iload_n (pc := 21) C.1 C.2.1 dX9_whole_21 rfl (lv_at hl 2 rfl) ?_
        refine ldM_11 (pc := 22) C h hw.1 dX9_whole_22 ?_
        have hw := hw.2
        refine lv_iconst (v := 2) (pc := 23) C.1 C.2.1 dX9_whole_23 (by decide) ?_
        have hw := hw (fun (v38 : Int32) (z40 : St) => ∀ (H : Heap) (locs : List Loc) (ls : Array Slot), wd D t A s (wM t a z40) H locs → lv_has ls 5 [(0, .ref (a 0)), (1, .int v38), (2, .int v3)] → W p l e (rmd 5) s m args below meth c H locs 0 0 (QL D t A (wM t a) P below args s) (F0 m 52 ls [])) (by
            intro v38 z40 hw H locs ls h hl
            obtain ⟨x41, ex41⟩ : ∃ y : Int32, y = v3 + (1) := ⟨_, rfl⟩
            have hw := hw x41 ex41
            refine lv_iinc (v := x41) (lv' := [(2, .int x41), (0, .ref (a 0)), (1, .int v38)]) (pc := 52) C.1 C.2.1 dX9_whole_52 hl (k := 2) rfl (by rw [ex41]; rfl) (by decide) rfl (fun ls hl => ?_)
            refine lv_goto (tgt := 9) (pc := 55) C.1 C.2.1 dX9_whole_55 (by decide) ?_
            exact hw _ _ _ h (lv_sub hl [1, 2, 0] rfl))
        refine lv_icmp_eq (tgt := 52) (pc := 24) C.1 C.2.1 dX9_whole_24 (by decide) (fun c42 => ?_) (fun c42 => ?_)
        · have hw := hw.1 c42
          exact hw _ _ _ h (lv_sub hl [0, 1, 2] rfl)
        · have hw := hw.2 c42
          refine lv_iload_n (pc := 27) C.1 C.2.1 dX9_whole_27 rfl (lv_at hl 1 rfl) ?_
          refine lv_iconst (v := 5) (pc := 28) C.1 C.2.1 dX9_whole_28 (by decide) ?_
          refine lv_icmp_ne (tgt := 42) (pc := 29) C.1 C.2.1 dX9_whole_29 (by decide) (fun c43 => ?_) (fun c43 => ?_)
          · have hw := hw.1 c43
            refine lv_aload_n (pc := 42) C.1 C.2.1 dX9_whole_42 rfl (lv_at hl 0 rfl) ?_
            refine GM_X9_69_0 (pc := 43) C h dX9_whole_43 ?_
            refine lv_iload_n (pc := 46) C.1 C.2.1 dX9_whole_46 rfl (lv_at hl 1 rfl) ?_
            refine lv_iload_n (pc := 47) C.1 C.2.1 dX9_whole_47 rfl (lv_at hl 2 rfl) ?_
            refine stM_18 (pc := 48) C h hw.1 dX9_whole_48 (fun z44 ez44 H locs h => ?_)
            have hw := hw.2 z44 ez44
            obtain ⟨x45, ex45⟩ : ∃ y : Int32, y = v2 + (1) := ⟨_, rfl⟩
            have hw := hw x45 ex45
            refine lv_iinc (v := x45) (lv' := [(1, .int x45), (0, .ref (a 0)), (2, .int v3)]) (pc := 49) C.1 C.2.1 dX9_whole_49 hl (k := 1) rfl (by rw [ex45]; rfl) (by decide) rfl (fun ls hl => ?_)
            exact hw _ _ _ h (lv_sub hl [1, 0, 2] rfl)
          · have hw := hw.2 c43
            refine lv_aload_n (pc := 32) C.1 C.2.1 dX9_whole_32 rfl (lv_at hl 0 rfl) ?_
            refine lv_bipush (v := -5) (pc := 33) C.1 C.2.1 dX9_whole_33 (by decide) ?_
            refine PM_X9_134_0 (pc := 35) C h dX9_whole_35 (fun z46 ez46 H locs h => ?_)
            have hw := hw z46 ez46
            refine lv_ldc2 (pc := 38) C.1 C.2.1 C.2.2.2.1 (C.2.2.2.2 _ lc_X9_223) dX9_whole_38 ?_
            exact rt_l (pc := 41) C hr hlk h hw dX9_whole_41)
  refine lv_istore_n (lv' := [(2, .int ((0 : Int32))), (1, .int ((0 : Int32))), (0, .ref (a 0))]) (pc := 8) C.1 C.2.1 dX9_whole_8 rfl hl (by decide) rfl (fun ls hl => ?_)
  exact hw _ _ _ h (lv_sub hl [2, 1, 0] rfl)

def wp_X9_each  (z : St) (P : Int32 → St → Prop) : Prop :=
  (∀ z1 : St, z1 = wI z 0 ((0 : Int32)) → (∀ K3 : Int32 → St → Prop, (∀ (v2 : Int32) (z4 : St), ((((gI z4 12) ≤ v2) → (∀ K8 : Int32 → Int32 → St → Prop, (∀ (v6 : Int32) (v7 : Int32) (z9 : St), ((((gI z9 12) ≤ v7) → P v6 z9) ∧ (¬ ((gI z9 12) ≤ v7) → (vp_in v7 16 ∧ (∀ K12 : Int32 → St → Prop, (∀ (v11 : Int32) (z13 : St), (∀ x14 : Int32, x14 = v7 + (1) → K8 v11 x14 z13) → K12 v11 z13) → (((¬ (gF z9 11 v7.toNatClampNeg) = ((2 : Int32))) → (vp_in v7 16 ∧ (∀ K19 : Int32 → Int64 → Int32 → St → Prop, (∀ (v16 : Int32) (v17 : Int64) (v18 : Int32) (z20 : St), (vp_in v7 16 ∧ ((((gF z20 8 v7.toNatClampNeg) < v18) → (∀ K22 : St → Prop, (∀ (z23 : St), (∀ K26 : Int32 → Int32 → Prop, (∀ (s24 : Int32) (s25 : Int32), (∀ x27 : Int32, x27 = s25 + s24 → K12 x27 z23) → K26 s24 s25) → (((0 ≤ v16) → K26 ((0 : Int32)) v6) ∧ (¬ (0 ≤ v16) → K26 ((1 : Int32)) v6))) → K22 z23) → (((v16 < 0) → K22 z20) ∧ (¬ (v16 < 0) → (vp_in v7 16 ∧ (∀ z30 : St, z30 = wR z20 11 (upd (gF z20 11) v7.toNatClampNeg ((1 : Int32))) → (vp_in v7 16 ∧ (∀ z31 : St, z31 = wR z30 12 (upd (gF z30 12) v7.toNatClampNeg v16) → K22 z31)))))))) ∧ (¬ ((gF z20 8 v7.toNatClampNeg) < v18) → (wp_X9_mayBegin v7 v18 z20 (fun r33 z32 => (∀ K36 : Int32 → Int64 → Prop, (∀ (v34 : Int32) (v35 : Int64), (∀ x37 : Int32, x37 = v18 + (1) → K19 v34 v35 x37 z32) → K36 v34 v35) → (((r33 = 0) → K36 v16 v17) ∧ (¬ (r33 = 0) → (wp_X9_costAt v7 v18 (gI z32 2) z32 (fun r40 => (∀ K41 : Prop, (K36 v18 r40 → K41) → (((v16 < 0) → K41) ∧ (¬ (v16 < 0) → (((0 ≤ (lg_cmp r40 v17)) → K36 v16 v17) ∧ (¬ (0 ≤ (lg_cmp r40 v17)) → K41))))))))))))))) → K19 v16 v17 v18 z20) → (∀ x44 : Int32, x44 = gF z9 7 v7.toNatClampNeg → K19 ((-1 : Int32)) ((0 : Int64)) x44 z9)))) ∧ ((gF z9 11 v7.toNatClampNeg) = ((2 : Int32)) → K12 v6 z9)))))) → K8 v6 v7 z9) → K8 ((0 : Int32)) ((0 : Int32)) z4)) ∧ (¬ ((gI z4 12) ≤ v2) → (vp_in v2 16 ∧ (∀ K47 : Int32 → Int32 → Prop, (∀ (s45 : Int32) (s46 : Int32), (vp_in s46 16 ∧ (∀ z48 : St, z48 = wR z4 11 (upd (gF z4 11) s46.toNatClampNeg s45) → (∀ x49 : Int32, x49 = v2 + (1) → K3 x49 z48))) → K47 s45 s46) → (((¬ (gF z4 11 v2.toNatClampNeg) = ((2 : Int32))) → K47 ((0 : Int32)) v2) ∧ ((gF z4 11 v2.toNatClampNeg) = ((2 : Int32)) → K47 ((2 : Int32)) v2)))))) → K3 v2 z4) → K3 ((0 : Int32)) z1))
set_option maxHeartbeats 4000000 in
set_option maxRecDepth 100000 in
theorem m_X9_each (l : Launch) (D : va_G) (t : Ty3) (a : Nat → Nat)  (z : St) (P : Int32 → St → Prop) (hw : wp_X9_each z P) : CtI l D t yX9_each cX9_each 9 (some .int) 4 (wM t a) (wM t a z) [.ref (a 0)] P := by
  refine ctI_of (by decide) (Nat.le_of_ble_eq_true rfl) ?_
  intro p e s m args below meth c A ls C hr hlk h hl
  have hl : lv_has ls 9 [(0, .ref (a 0))] := hl
  unfold wp_X9_each at hw
  refine lv_aload_n (pc := 0) C.1 C.2.1 dX9_each_0 rfl (lv_at hl 0 rfl) ?_
  refine lv_iconst (v := 0) (pc := 1) C.1 C.2.1 dX9_each_1 (by decide) ?_
  refine PM_X9_131_0 (pc := 2) C h dX9_each_2 (fun z1 ez1 H locs h => ?_)
  have hw := hw z1 ez1
  refine lv_iconst (v := 0) (pc := 5) C.1 C.2.1 dX9_each_5 (by decide) ?_
  refine lv_istore_n (lv' := [(1, .int ((0 : Int32))), (0, .ref (a 0))]) (pc := 6) C.1 C.2.1 dX9_each_6 rfl hl (by decide) rfl (fun ls hl => ?_)
  refine lv_iconst (v := 0) (pc := 7) C.1 C.2.1 dX9_each_7 (by decide) ?_
  have hw := hw (fun (v2 : Int32) (z4 : St) => ∀ (H : Heap) (locs : List Loc) (ls : Array Slot), wd D t A s (wM t a z4) H locs → lv_has ls 9 [(0, .ref (a 0)), (1, .int ((0 : Int32))), (2, .int v2)] → W p l e (rmd 4) s m args below meth c H locs 0 0 (QI D t A (wM t a) P below args s) (F0 m 9 ls [])) (by
      intro v2 z4 hw H locs ls h hl
      refine lv_iload_n (pc := 9) C.1 C.2.1 dX9_each_9 rfl (lv_at hl 2 rfl) ?_
      refine lv_aload_n (pc := 10) C.1 C.2.1 dX9_each_10 rfl (lv_at hl 0 rfl) ?_
      refine GM_X9_148_0 (pc := 11) C h dX9_each_11 ?_
      refine lv_icmp_ge (tgt := 44) (pc := 14) C.1 C.2.1 dX9_each_14 (by decide) (fun c5 => ?_) (fun c5 => ?_)
      · have hw := hw.1 c5
        refine lv_iconst (v := 0) (pc := 44) C.1 C.2.1 dX9_each_44 (by decide) ?_
        have hw := hw (fun (v6 : Int32) (v7 : Int32) (z9 : St) => ∀ (H : Heap) (locs : List Loc) (ls : Array Slot), wd D t A s (wM t a z9) H locs → lv_has ls 9 [(0, .ref (a 0)), (1, .int v6), (2, .int v7)] → W p l e (rmd 4) s m args below meth c H locs 0 0 (QI D t A (wM t a) P below args s) (F0 m 46 ls [])) (by
            intro v6 v7 z9 hw H locs ls h hl
            refine lv_iload_n (pc := 46) C.1 C.2.1 dX9_each_46 rfl (lv_at hl 2 rfl) ?_
            refine lv_aload_n (pc := 47) C.1 C.2.1 dX9_each_47 rfl (lv_at hl 0 rfl) ?_
            refine GM_X9_148_0 (pc := 48) C h dX9_each_48 ?_
            refine lv_icmp_ge (tgt := 175) (pc := 51) C.1 C.2.1 dX9_each_51 (by decide) (fun c10 => ?_) (fun c10 => ?_)
            · have hw := hw.1 c10
              refine lv_iload_n (pc := 175) C.1 C.2.1 dX9_each_175 rfl (lv_at hl 1 rfl) ?_
              exact rt_i (pc := 176) C hr hlk h hw dX9_each_176
            · have hw := hw.2 c10
              refine lv_aload_n (pc := 54) C.1 C.2.1 dX9_each_54 rfl (lv_at hl 0 rfl) ?_
              refine GM_X9_48_0 (pc := 55) C h dX9_each_55 ?_
              refine lv_iload_n (pc := 58) C.1 C.2.1 dX9_each_58 rfl (lv_at hl 2 rfl) ?_
              refine ldM_11 (pc := 59) C h hw.1 dX9_each_59 ?_
              have hw := hw.2
              refine lv_iconst (v := 2) (pc := 60) C.1 C.2.1 dX9_each_60 (by decide) ?_
              have hw := hw (fun (v11 : Int32) (z13 : St) => ∀ (H : Heap) (locs : List Loc) (ls : Array Slot), wd D t A s (wM t a z13) H locs → lv_has ls 9 [(0, .ref (a 0)), (1, .int v11), (2, .int v7)] → W p l e (rmd 4) s m args below meth c H locs 0 0 (QI D t A (wM t a) P below args s) (F0 m 169 ls [])) (by
                  intro v11 z13 hw H locs ls h hl
                  obtain ⟨x14, ex14⟩ : ∃ y : Int32, y = v7 + (1) := ⟨_, rfl⟩
                  have hw := hw x14 ex14
                  refine lv_iinc (v := x14) (lv' := [(2, .int x14), (0, .ref (a 0)), (1, .int v11)]) (pc := 169) C.1 C.2.1 dX9_each_169 hl (k := 2) rfl (by rw [ex14]; rfl) (by decide) rfl (fun ls hl => ?_)
                  refine lv_goto (tgt := 46) (pc := 172) C.1 C.2.1 dX9_each_172 (by decide) ?_
                  exact hw _ _ _ h (lv_sub hl [1, 2, 0] rfl))
              refine lv_icmp_ne (tgt := 67) (pc := 61) C.1 C.2.1 dX9_each_61 (by decide) (fun c15 => ?_) (fun c15 => ?_)
              · have hw := hw.1 c15
                refine lv_iconst (v := -1) (pc := 67) C.1 C.2.1 dX9_each_67 (by decide) ?_
                refine lv_istore_n (lv' := [(3, .int ((-1 : Int32))), (0, .ref (a 0)), (1, .int v6), (2, .int v7)]) (pc := 68) C.1 C.2.1 dX9_each_68 rfl hl (by decide) rfl (fun ls hl => ?_)
                refine lv_lconst (v := 0) (pc := 69) C.1 C.2.1 dX9_each_69 (by decide) ?_
                refine lv_lstore (lv' := [(4, .long ((0 : Int64))), (3, .int ((-1 : Int32))), (0, .ref (a 0)), (1, .int v6), (2, .int v7)]) (pc := 70) C.1 C.2.1 dX9_each_70 hl (by decide) rfl (fun ls hl => ?_)
                refine lv_aload_n (pc := 72) C.1 C.2.1 dX9_each_72 rfl (lv_at hl 2 rfl) ?_
                refine GM_X9_36_0 (pc := 73) C h dX9_each_73 ?_
                refine lv_iload_n (pc := 76) C.1 C.2.1 dX9_each_76 rfl (lv_at hl 4 rfl) ?_
                refine ldM_7 (pc := 77) C h hw.1 dX9_each_77 ?_
                have hw := hw.2
                have hw := hw (fun (v16 : Int32) (v17 : Int64) (v18 : Int32) (z20 : St) => ∀ (H : Heap) (locs : List Loc) (ls : Array Slot), wd D t A s (wM t a z20) H locs → lv_has ls 9 [(0, .ref (a 0)), (1, .int v6), (2, .int v7), (3, .int v16), (4, .long v17), (6, .int v18)] → W p l e (rmd 4) s m args below meth c H locs 0 0 (QI D t A (wM t a) P below args s) (F0 m 80 ls [])) (by
                    intro v16 v17 v18 z20 hw H locs ls h hl
                    refine lv_iload (pc := 80) C.1 C.2.1 dX9_each_80 (lv_at hl 5 rfl) ?_
                    refine lv_aload_n (pc := 82) C.1 C.2.1 dX9_each_82 rfl (lv_at hl 0 rfl) ?_
                    refine GM_X9_39_0 (pc := 83) C h dX9_each_83 ?_
                    refine lv_iload_n (pc := 86) C.1 C.2.1 dX9_each_86 rfl (lv_at hl 2 rfl) ?_
                    refine ldM_8 (pc := 87) C h hw.1 dX9_each_87 ?_
                    have hw := hw.2
                    refine lv_icmp_gt (tgt := 139) (pc := 88) C.1 C.2.1 dX9_each_88 (by decide) (fun c21 => ?_) (fun c21 => ?_)
                    · have hw := hw.1 c21
                      refine lv_iload_n (pc := 139) C.1 C.2.1 dX9_each_139 rfl (lv_at hl 3 rfl) ?_
                      have hw := hw (fun (z23 : St) => ∀ (H : Heap) (locs : List Loc) (ls : Array Slot), wd D t A s (wM t a z23) H locs → lv_has ls 9 [(0, .ref (a 0)), (1, .int v6), (2, .int v7), (3, .int v16)] → W p l e (rmd 4) s m args below meth c H locs 0 0 (QI D t A (wM t a) P below args s) (F0 m 157 ls [])) (by
                          intro z23 hw H locs ls h hl
                          refine lv_iload_n (pc := 157) C.1 C.2.1 dX9_each_157 rfl (lv_at hl 1 rfl) ?_
                          refine lv_iload_n (pc := 158) C.1 C.2.1 dX9_each_158 rfl (lv_at hl 3 rfl) ?_
                          have hw := hw (fun (s24 : Int32) (s25 : Int32) => ∀ (H : Heap) (locs : List Loc) (ls : Array Slot), wd D t A s (wM t a z23) H locs → lv_has ls 9 [(0, .ref (a 0)), (2, .int v7)] → W p l e (rmd 4) s m args below meth c H locs 0 0 (QI D t A (wM t a) P below args s) (F0 m 167 ls [.int s24, .int s25])) (by
                              intro s24 s25 hw H locs ls h hl
                              refine lv_iadd (pc := 167) C.1 C.2.1 dX9_each_167 ?_
                              refine lv_topi (fun x27 ex27 => ?_)
                              have hw := hw x27 ex27
                              refine lv_istore_n (lv' := [(1, .int x27), (0, .ref (a 0)), (2, .int v7)]) (pc := 168) C.1 C.2.1 dX9_each_168 rfl hl (by decide) rfl (fun ls hl => ?_)
                              exact hw _ _ _ h (lv_sub hl [1, 0, 2] rfl))
                          refine lv_if_ge (tgt := 166) (pc := 159) C.1 C.2.1 dX9_each_159 (by decide) (fun c28 => ?_) (fun c28 => ?_)
                          · have hw := hw.1 c28
                            refine lv_iconst (v := 0) (pc := 166) C.1 C.2.1 dX9_each_166 (by decide) ?_
                            exact hw _ _ _ h (lv_sub hl [0, 2] rfl)
                          · have hw := hw.2 c28
                            refine lv_iconst (v := 1) (pc := 162) C.1 C.2.1 dX9_each_162 (by decide) ?_
                            refine lv_goto (tgt := 167) (pc := 163) C.1 C.2.1 dX9_each_163 (by decide) ?_
                            exact hw _ _ _ h (lv_sub hl [0, 2] rfl))
                      refine lv_if_lt (tgt := 157) (pc := 140) C.1 C.2.1 dX9_each_140 (by decide) (fun c29 => ?_) (fun c29 => ?_)
                      · have hw := hw.1 c29
                        exact hw _ _ _ h (lv_sub hl [0, 1, 2, 3] rfl)
                      · have hw := hw.2 c29
                        refine lv_aload_n (pc := 143) C.1 C.2.1 dX9_each_143 rfl (lv_at hl 0 rfl) ?_
                        refine GM_X9_48_0 (pc := 144) C h dX9_each_144 ?_
                        refine lv_iload_n (pc := 147) C.1 C.2.1 dX9_each_147 rfl (lv_at hl 2 rfl) ?_
                        refine lv_iconst (v := 1) (pc := 148) C.1 C.2.1 dX9_each_148 (by decide) ?_
                        refine stM_11 (pc := 149) C h hw.1 dX9_each_149 (fun z30 ez30 H locs h => ?_)
                        have hw := hw.2 z30 ez30
                        refine lv_aload_n (pc := 150) C.1 C.2.1 dX9_each_150 rfl (lv_at hl 0 rfl) ?_
                        refine GM_X9_51_0 (pc := 151) C h dX9_each_151 ?_
                        refine lv_iload_n (pc := 154) C.1 C.2.1 dX9_each_154 rfl (lv_at hl 2 rfl) ?_
                        refine lv_iload_n (pc := 155) C.1 C.2.1 dX9_each_155 rfl (lv_at hl 3 rfl) ?_
                        refine stM_12 (pc := 156) C h hw.1 dX9_each_156 (fun z31 ez31 H locs h => ?_)
                        have hw := hw.2 z31 ez31
                        exact hw _ _ _ h (lv_sub hl [0, 1, 2, 3] rfl)
                    · have hw := hw.2 c21
                      refine lv_aload_n (pc := 91) C.1 C.2.1 dX9_each_91 rfl (lv_at hl 0 rfl) ?_
                      refine lv_iload_n (pc := 92) C.1 C.2.1 dX9_each_92 rfl (lv_at hl 2 rfl) ?_
                      refine lv_iload (pc := 93) C.1 C.2.1 dX9_each_93 (lv_at hl 5 rfl) ?_
                      refine cl_vi (pc := 95) (As := [.int v7, .int v18]) (rest := []) C h (m_X9_mayBegin l D t a v7 v18 z20 _ hw) mw_X9_mayBegin lm_X9_220 md_X9_mayBegin rcM_0 ⟨by decide, by decide⟩ ⟨Nat.zero_le _, Nat.zero_le _⟩ hl.1 rfl (Nat.le_of_ble_eq_true rfl) dX9_each_95 (fun r33 z32 H locs hw h => ?_)
                      have hw := hw (fun (v34 : Int32) (v35 : Int64) => ∀ (H : Heap) (locs : List Loc) (ls : Array Slot), wd D t A s (wM t a z32) H locs → lv_has ls 9 [(0, .ref (a 0)), (1, .int v6), (2, .int v7), (3, .int v34), (4, .long v35), (6, .int v18)] → W p l e (rmd 4) s m args below meth c H locs 0 0 (QI D t A (wM t a) P below args s) (F0 m 133 ls [])) (by
                          intro v34 v35 hw H locs ls h hl
                          obtain ⟨x37, ex37⟩ : ∃ y : Int32, y = v18 + (1) := ⟨_, rfl⟩
                          have hw := hw x37 ex37
                          refine lv_iinc (v := x37) (lv' := [(6, .int x37), (0, .ref (a 0)), (1, .int v6), (2, .int v7), (3, .int v34), (4, .long v35)]) (pc := 133) C.1 C.2.1 dX9_each_133 hl (k := 5) rfl (by rw [ex37]; rfl) (by decide) rfl (fun ls hl => ?_)
                          refine lv_goto (tgt := 80) (pc := 136) C.1 C.2.1 dX9_each_136 (by decide) ?_
                          exact hw _ _ _ h (lv_sub hl [1, 2, 3, 4, 5, 0] rfl))
                      refine lv_if_eq (tgt := 133) (pc := 98) C.1 C.2.1 dX9_each_98 (by decide) (fun c38 => ?_) (fun c38 => ?_)
                      · have hw := hw.1 c38
                        exact hw _ _ _ h (lv_sub hl [0, 1, 2, 3, 4, 5] rfl)
                      · have hw := hw.2 c38
                        refine lv_aload_n (pc := 101) C.1 C.2.1 dX9_each_101 rfl (lv_at hl 0 rfl) ?_
                        refine lv_iload_n (pc := 102) C.1 C.2.1 dX9_each_102 rfl (lv_at hl 2 rfl) ?_
                        refine lv_iload (pc := 103) C.1 C.2.1 dX9_each_103 (lv_at hl 5 rfl) ?_
                        refine lv_aload_n (pc := 105) C.1 C.2.1 dX9_each_105 rfl (lv_at hl 0 rfl) ?_
                        refine GM_X9_173_0 (pc := 106) C h dX9_each_106 ?_
                        refine cl_vl (pc := 109) (As := [.int v7, .int v18, .int (gI z32 2)]) (rest := []) C h (m_X9_costAt l D t a v7 v18 (gI z32 2) z32 _ hw) mw_X9_costAt lm_X9_233 md_X9_costAt rcM_0 ⟨by decide, by decide⟩ ⟨Nat.zero_le _, Nat.zero_le _⟩ hl.1 rfl (Nat.le_of_ble_eq_true rfl) dX9_each_109 (fun r40 z39 H locs hw h => ?_)
                        rw [hw.1] at h
                        have hw := hw.2
                        refine lv_lstore (lv' := [(7, .long r40), (0, .ref (a 0)), (1, .int v6), (2, .int v7), (3, .int v16), (4, .long v17), (6, .int v18)]) (pc := 112) C.1 C.2.1 dX9_each_112 hl (by decide) rfl (fun ls hl => ?_)
                        refine lv_iload_n (pc := 114) C.1 C.2.1 dX9_each_114 rfl (lv_at hl 4 rfl) ?_
                        have hw := hw (∀ (H : Heap) (locs : List Loc) (ls : Array Slot), wd D t A s (wM t a z32) H locs → lv_has ls 9 [(0, .ref (a 0)), (1, .int v6), (2, .int v7), (6, .int v18), (7, .long r40)] → W p l e (rmd 4) s m args below meth c H locs 0 0 (QI D t A (wM t a) P below args s) (F0 m 126 ls [])) (by
                            intro hw H locs ls h hl
                            refine lv_iload (pc := 126) C.1 C.2.1 dX9_each_126 (lv_at hl 3 rfl) ?_
                            refine lv_istore_n (lv' := [(3, .int v18), (0, .ref (a 0)), (1, .int v6), (2, .int v7), (6, .int v18), (7, .long r40)]) (pc := 128) C.1 C.2.1 dX9_each_128 rfl hl (by decide) rfl (fun ls hl => ?_)
                            refine lv_lload (pc := 129) C.1 C.2.1 dX9_each_129 (lv_at hl 5 rfl) ?_
                            refine lv_lstore (lv' := [(4, .long r40), (3, .int v18), (0, .ref (a 0)), (1, .int v6), (2, .int v7), (6, .int v18), (7, .long r40)]) (pc := 131) C.1 C.2.1 dX9_each_131 hl (by decide) rfl (fun ls hl => ?_)
                            exact hw _ _ _ h (lv_sub hl [2, 3, 4, 1, 0, 5] rfl))
                        refine lv_if_lt (tgt := 126) (pc := 115) C.1 C.2.1 dX9_each_115 (by decide) (fun c42 => ?_) (fun c42 => ?_)
                        · have hw := hw.1 c42
                          exact hw _ _ _ h (lv_sub hl [1, 2, 3, 6, 0] rfl)
                        · have hw := hw.2 c42
                          refine lv_lload (pc := 118) C.1 C.2.1 dX9_each_118 (lv_at hl 0 rfl) ?_
                          refine lv_lload (pc := 120) C.1 C.2.1 dX9_each_120 (lv_at hl 5 rfl) ?_
                          refine W.lcmp (pc := 122) C.1 C.2.1 dX9_each_122 ?_
                          refine lv_if_ge (tgt := 133) (pc := 123) C.1 C.2.1 dX9_each_123 (by decide) (fun c43 => ?_) (fun c43 => ?_)
                          · have hw := hw.1 c43
                            exact hw _ _ _ h (lv_sub hl [1, 2, 3, 4, 5, 6] rfl)
                          · have hw := hw.2 c43
                            exact hw _ _ _ h (lv_sub hl [1, 2, 3, 6, 0] rfl))
                refine lv_topi (fun x44 ex44 => ?_)
                have hw := hw x44 ex44
                refine lv_istore (lv' := [(6, .int x44), (4, .long ((0 : Int64))), (3, .int ((-1 : Int32))), (0, .ref (a 0)), (1, .int v6), (2, .int v7)]) (pc := 78) C.1 C.2.1 dX9_each_78 hl (by decide) rfl (fun ls hl => ?_)
                exact hw _ _ _ h (lv_sub hl [3, 4, 5, 2, 1, 0] rfl)
              · have hw := hw.2 c15
                refine lv_goto (tgt := 169) (pc := 64) C.1 C.2.1 dX9_each_64 (by decide) ?_
                exact hw _ _ _ h (lv_sub hl [0, 1, 2] rfl))
        refine lv_istore_n (lv' := [(2, .int ((0 : Int32))), (0, .ref (a 0)), (1, .int ((0 : Int32)))]) (pc := 45) C.1 C.2.1 dX9_each_45 rfl hl (by decide) rfl (fun ls hl => ?_)
        exact hw _ _ _ h (lv_sub hl [1, 2, 0] rfl)
      · have hw := hw.2 c5
        refine lv_aload_n (pc := 17) C.1 C.2.1 dX9_each_17 rfl (lv_at hl 0 rfl) ?_
        refine GM_X9_48_0 (pc := 18) C h dX9_each_18 ?_
        refine lv_iload_n (pc := 21) C.1 C.2.1 dX9_each_21 rfl (lv_at hl 2 rfl) ?_
        refine lv_aload_n (pc := 22) C.1 C.2.1 dX9_each_22 rfl (lv_at hl 0 rfl) ?_
        refine GM_X9_48_0 (pc := 23) C h dX9_each_23 ?_
        refine lv_iload_n (pc := 26) C.1 C.2.1 dX9_each_26 rfl (lv_at hl 2 rfl) ?_
        refine ldM_11 (pc := 27) C h hw.1 dX9_each_27 ?_
        have hw := hw.2
        refine lv_iconst (v := 2) (pc := 28) C.1 C.2.1 dX9_each_28 (by decide) ?_
        have hw := hw (fun (s45 : Int32) (s46 : Int32) => ∀ (H : Heap) (locs : List Loc) (ls : Array Slot), wd D t A s (wM t a z4) H locs → lv_has ls 9 [(0, .ref (a 0)), (1, .int ((0 : Int32))), (2, .int v2)] → W p l e (rmd 4) s m args below meth c H locs 0 0 (QI D t A (wM t a) P below args s) (F0 m 37 ls [.int s45, .int s46, .ref (a 11)])) (by
            intro s45 s46 hw H locs ls h hl
            refine stM_11 (pc := 37) C h hw.1 dX9_each_37 (fun z48 ez48 H locs h => ?_)
            have hw := hw.2 z48 ez48
            obtain ⟨x49, ex49⟩ : ∃ y : Int32, y = v2 + (1) := ⟨_, rfl⟩
            have hw := hw x49 ex49
            refine lv_iinc (v := x49) (lv' := [(2, .int x49), (0, .ref (a 0)), (1, .int ((0 : Int32)))]) (pc := 38) C.1 C.2.1 dX9_each_38 hl (k := 2) rfl (by rw [ex49]; rfl) (by decide) rfl (fun ls hl => ?_)
            refine lv_goto (tgt := 9) (pc := 41) C.1 C.2.1 dX9_each_41 (by decide) ?_
            exact hw _ _ _ h (lv_sub hl [1, 2, 0] rfl))
        refine lv_icmp_ne (tgt := 36) (pc := 29) C.1 C.2.1 dX9_each_29 (by decide) (fun c50 => ?_) (fun c50 => ?_)
        · have hw := hw.1 c50
          refine lv_iconst (v := 0) (pc := 36) C.1 C.2.1 dX9_each_36 (by decide) ?_
          exact hw _ _ _ h (lv_sub hl [0, 1, 2] rfl)
        · have hw := hw.2 c50
          refine lv_iconst (v := 2) (pc := 32) C.1 C.2.1 dX9_each_32 (by decide) ?_
          refine lv_goto (tgt := 37) (pc := 33) C.1 C.2.1 dX9_each_33 (by decide) ?_
          exact hw _ _ _ h (lv_sub hl [0, 1, 2] rfl))
  refine lv_istore_n (lv' := [(2, .int ((0 : Int32))), (1, .int ((0 : Int32))), (0, .ref (a 0))]) (pc := 8) C.1 C.2.1 dX9_each_8 rfl hl (by decide) rfl (fun ls hl => ?_)
  exact hw _ _ _ h (lv_sub hl [2, 1, 0] rfl)

def wp_X9_four (b1 : Int32) (z : St) (P : St → Prop) : Prop :=
  (∀ K2 : Int32 → St → Prop, (∀ (v1 : Int32) (z3 : St), (((v1 < 0) → P z3) ∧ (¬ (v1 < 0) → (vp_in (gI z3 36) 300 ∧ (∀ z5 : St, z5 = wR z3 25 (upd (gF z3 25) (gI z3 36).toNatClampNeg ((b1 >>> (v1 &&& 31)) &&& ((255 : Int32)))) → (∀ z6 : St, z6 = wI z5 36 ((gI z5 36) + ((1 : Int32))) → (∀ x7 : Int32, x7 = v1 + (-8) → K2 x7 z6)))))) → K2 v1 z3) → K2 ((24 : Int32)) z)
set_option maxHeartbeats 4000000 in
set_option maxRecDepth 100000 in
theorem m_X9_four (l : Launch) (D : va_G) (t : Ty3) (a : Nat → Nat) (b1 : Int32) (z : St) (P : St → Prop) (hw : wp_X9_four b1 z P) : CtV l D t yX9_four cX9_four 3 none 0 (wM t a) (wM t a z) [.ref (a 0), .int b1] P := by
  refine ctV_of (by decide) (Nat.le_of_ble_eq_true rfl) ?_
  intro p e s m args below meth c A ls C hr hlk h hl
  have hl : lv_has ls 3 [(0, .ref (a 0)), (1, .int b1)] := hl
  unfold wp_X9_four at hw
  refine lv_bipush (v := 24) (pc := 0) C.1 C.2.1 dX9_four_0 (by decide) ?_
  have hw := hw (fun (v1 : Int32) (z3 : St) => ∀ (H : Heap) (locs : List Loc) (ls : Array Slot), wd D t A s (wM t a z3) H locs → lv_has ls 3 [(0, .ref (a 0)), (1, .int b1), (2, .int v1)] → W p l e (rmd 0) s m args below meth c H locs 0 0 (QV D t A (wM t a) P below args s) (F0 m 3 ls [])) (by
      intro v1 z3 hw H locs ls h hl
      refine lv_iload_n (pc := 3) C.1 C.2.1 dX9_four_3 rfl (lv_at hl 2 rfl) ?_
      refine lv_if_lt (tgt := 39) (pc := 4) C.1 C.2.1 dX9_four_4 (by decide) (fun c4 => ?_) (fun c4 => ?_)
      · have hw := hw.1 c4
        exact rt_v (pc := 39) C hr hlk h hw dX9_four_39
      · have hw := hw.2 c4
        refine lv_aload_n (pc := 7) C.1 C.2.1 dX9_four_7 rfl (lv_at hl 0 rfl) ?_
        refine GM_X9_91_0 (pc := 8) C h dX9_four_8 ?_
        refine lv_aload_n (pc := 11) C.1 C.2.1 dX9_four_11 rfl (lv_at hl 0 rfl) ?_
        refine GM_X9_243_0 (pc := 12) C h dX9_four_12 ?_
        refine lv_iload_n (pc := 15) C.1 C.2.1 dX9_four_15 rfl (lv_at hl 1 rfl) ?_
        refine lv_iload_n (pc := 16) C.1 C.2.1 dX9_four_16 rfl (lv_at hl 2 rfl) ?_
        refine lv_ishr (pc := 17) C.1 C.2.1 dX9_four_17 ?_
        refine lv_sipush (v := 255) (pc := 18) C.1 C.2.1 dX9_four_18 (by decide) ?_
        refine lv_iand (pc := 21) C.1 C.2.1 dX9_four_21 ?_
        refine stM_25 (pc := 22) C h hw.1 dX9_four_22 (fun z5 ez5 H locs h => ?_)
        have hw := hw.2 z5 ez5
        refine lv_aload_n (pc := 23) C.1 C.2.1 dX9_four_23 rfl (lv_at hl 0 rfl) ?_
        refine lv_dup (pc := 24) C.1 C.2.1 dX9_four_24 rfl ?_
        refine GM_X9_243_0 (pc := 25) C h dX9_four_25 ?_
        refine lv_iconst (v := 1) (pc := 28) C.1 C.2.1 dX9_four_28 (by decide) ?_
        refine lv_iadd (pc := 29) C.1 C.2.1 dX9_four_29 ?_
        refine PM_X9_243_0 (pc := 30) C h dX9_four_30 (fun z6 ez6 H locs h => ?_)
        have hw := hw z6 ez6
        obtain ⟨x7, ex7⟩ : ∃ y : Int32, y = v1 + (-8) := ⟨_, rfl⟩
        have hw := hw x7 ex7
        refine lv_iinc (v := x7) (lv' := [(2, .int x7), (0, .ref (a 0)), (1, .int b1)]) (pc := 33) C.1 C.2.1 dX9_four_33 hl (k := 2) rfl (by rw [ex7]; rfl) (by decide) rfl (fun ls hl => ?_)
        refine lv_goto (tgt := 3) (pc := 36) C.1 C.2.1 dX9_four_36 (by decide) ?_
        exact hw _ _ _ h (lv_sub hl [1, 2, 0] rfl))
  refine lv_istore_n (lv' := [(2, .int ((24 : Int32))), (0, .ref (a 0)), (1, .int b1)]) (pc := 2) C.1 C.2.1 dX9_four_2 rfl hl (by decide) rfl (fun ls hl => ?_)
  exact hw _ _ _ h (lv_sub hl [1, 2, 0] rfl)

def wp_X9_feed (b1 : Int32) (b2 : Int32) (b3 : Int32) (b4 : Int32) (b5 : Int32) (z : St) (P : Int32 → St → Prop) : Prop :=
  (∀ z1 : St, z1 = wI z 0 ((0 : Int32)) → (((((gI z1 36) + ((20 : Int32))) ≤ ((300 : Int32))) → (wp_X9_four b1 z1 (fun z3 => (wp_X9_four b2 z3 (fun z5 => (wp_X9_four b3 z5 (fun z7 => (wp_X9_four b4 z7 (fun z9 => (wp_X9_four b5 z9 (fun z11 => P (gI z11 36) z11))))))))))) ∧ (¬ (((gI z1 36) + ((20 : Int32))) ≤ ((300 : Int32))) → P ((-1 : Int32)) z1)))
set_option maxHeartbeats 4000000 in
set_option maxRecDepth 100000 in
theorem m_X9_feed (l : Launch) (D : va_G) (t : Ty3) (a : Nat → Nat) (b1 : Int32) (b2 : Int32) (b3 : Int32) (b4 : Int32) (b5 : Int32) (z : St) (P : Int32 → St → Prop) (hw : wp_X9_feed b1 b2 b3 b4 b5 z P) : CtI l D t yX9_feed cX9_feed 6 (some .int) 1 (wM t a) (wM t a z) [.ref (a 0), .int b1, .int b2, .int b3, .int b4, .int b5] P := by
  refine ctI_of (by decide) (Nat.le_of_ble_eq_true rfl) ?_
  intro p e s m args below meth c A ls C hr hlk h hl
  have hl : lv_has ls 6 [(0, .ref (a 0)), (1, .int b1), (2, .int b2), (3, .int b3), (4, .int b4), (5, .int b5)] := hl
  unfold wp_X9_feed at hw
  refine lv_aload_n (pc := 0) C.1 C.2.1 dX9_feed_0 rfl (lv_at hl 0 rfl) ?_
  refine lv_iconst (v := 0) (pc := 1) C.1 C.2.1 dX9_feed_1 (by decide) ?_
  refine PM_X9_131_0 (pc := 2) C h dX9_feed_2 (fun z1 ez1 H locs h => ?_)
  have hw := hw z1 ez1
  refine lv_aload_n (pc := 5) C.1 C.2.1 dX9_feed_5 rfl (lv_at hl 0 rfl) ?_
  refine GM_X9_243_0 (pc := 6) C h dX9_feed_6 ?_
  refine lv_bipush (v := 20) (pc := 9) C.1 C.2.1 dX9_feed_9 (by decide) ?_
  refine lv_iadd (pc := 11) C.1 C.2.1 dX9_feed_11 ?_
  refine lv_sipush (v := 300) (pc := 12) C.1 C.2.1 dX9_feed_12 (by decide) ?_
  refine lv_icmp_le (tgt := 20) (pc := 15) C.1 C.2.1 dX9_feed_15 (by decide) (fun c2 => ?_) (fun c2 => ?_)
  · have hw := hw.1 c2
    refine lv_aload_n (pc := 20) C.1 C.2.1 dX9_feed_20 rfl (lv_at hl 0 rfl) ?_
    refine lv_iload_n (pc := 21) C.1 C.2.1 dX9_feed_21 rfl (lv_at hl 1 rfl) ?_
    refine cl_vv (pc := 22) (As := [.int b1]) (rest := []) C h (m_X9_four l D t a b1 z1 _ hw) mw_X9_four lm_X9_246 md_X9_four rcM_0 ⟨by decide, by decide⟩ ⟨Nat.zero_le _, Nat.zero_le _⟩ hl.1 rfl (Nat.le_of_ble_eq_true rfl) dX9_feed_22 (fun z3 H locs hw h => ?_)
    refine lv_aload_n (pc := 25) C.1 C.2.1 dX9_feed_25 rfl (lv_at hl 0 rfl) ?_
    refine lv_iload_n (pc := 26) C.1 C.2.1 dX9_feed_26 rfl (lv_at hl 2 rfl) ?_
    refine cl_vv (pc := 27) (As := [.int b2]) (rest := []) C h (m_X9_four l D t a b2 z3 _ hw) mw_X9_four lm_X9_246 md_X9_four rcM_0 ⟨by decide, by decide⟩ ⟨Nat.zero_le _, Nat.zero_le _⟩ hl.1 rfl (Nat.le_of_ble_eq_true rfl) dX9_feed_27 (fun z5 H locs hw h => ?_)
    refine lv_aload_n (pc := 30) C.1 C.2.1 dX9_feed_30 rfl (lv_at hl 0 rfl) ?_
    refine lv_iload_n (pc := 31) C.1 C.2.1 dX9_feed_31 rfl (lv_at hl 3 rfl) ?_
    refine cl_vv (pc := 32) (As := [.int b3]) (rest := []) C h (m_X9_four l D t a b3 z5 _ hw) mw_X9_four lm_X9_246 md_X9_four rcM_0 ⟨by decide, by decide⟩ ⟨Nat.zero_le _, Nat.zero_le _⟩ hl.1 rfl (Nat.le_of_ble_eq_true rfl) dX9_feed_32 (fun z7 H locs hw h => ?_)
    refine lv_aload_n (pc := 35) C.1 C.2.1 dX9_feed_35 rfl (lv_at hl 0 rfl) ?_
    refine lv_iload (pc := 36) C.1 C.2.1 dX9_feed_36 (lv_at hl 4 rfl) ?_
    refine cl_vv (pc := 38) (As := [.int b4]) (rest := []) C h (m_X9_four l D t a b4 z7 _ hw) mw_X9_four lm_X9_246 md_X9_four rcM_0 ⟨by decide, by decide⟩ ⟨Nat.zero_le _, Nat.zero_le _⟩ hl.1 rfl (Nat.le_of_ble_eq_true rfl) dX9_feed_38 (fun z9 H locs hw h => ?_)
    refine lv_aload_n (pc := 41) C.1 C.2.1 dX9_feed_41 rfl (lv_at hl 0 rfl) ?_
    refine lv_iload (pc := 42) C.1 C.2.1 dX9_feed_42 (lv_at hl 5 rfl) ?_
    refine cl_vv (pc := 44) (As := [.int b5]) (rest := []) C h (m_X9_four l D t a b5 z9 _ hw) mw_X9_four lm_X9_246 md_X9_four rcM_0 ⟨by decide, by decide⟩ ⟨Nat.zero_le _, Nat.zero_le _⟩ hl.1 rfl (Nat.le_of_ble_eq_true rfl) dX9_feed_44 (fun z11 H locs hw h => ?_)
    refine lv_aload_n (pc := 47) C.1 C.2.1 dX9_feed_47 rfl (lv_at hl 0 rfl) ?_
    refine GM_X9_243_0 (pc := 48) C h dX9_feed_48 ?_
    exact rt_i (pc := 51) C hr hlk h hw dX9_feed_51
  · have hw := hw.2 c2
    refine lv_iconst (v := -1) (pc := 18) C.1 C.2.1 dX9_feed_18 (by decide) ?_
    exact rt_i (pc := 19) C hr hlk h hw dX9_feed_19

def wp_X9_end (b1 : Int32) (z : St) (P : Int32 → St → Prop) : Prop :=
  (∀ z1 : St, z1 = wI z 0 ((0 : Int32)) → (((b1 < 0) → P ((-1 : Int32)) z1) ∧ (¬ (b1 < 0) → (((b1 ≤ (gI z1 36)) → (∀ z4 : St, z4 = wI z1 36 b1 → P b1 z4)) ∧ (¬ (b1 ≤ (gI z1 36)) → P ((-1 : Int32)) z1)))))
set_option maxHeartbeats 4000000 in
set_option maxRecDepth 100000 in
theorem m_X9_end (l : Launch) (D : va_G) (t : Ty3) (a : Nat → Nat) (b1 : Int32) (z : St) (P : Int32 → St → Prop) (hw : wp_X9_end b1 z P) : CtI l D t yX9_end cX9_end 2 (some .int) 0 (wM t a) (wM t a z) [.ref (a 0), .int b1] P := by
  refine ctI_of (by decide) (Nat.le_of_ble_eq_true rfl) ?_
  intro p e s m args below meth c A ls C hr hlk h hl
  have hl : lv_has ls 2 [(0, .ref (a 0)), (1, .int b1)] := hl
  unfold wp_X9_end at hw
  refine lv_aload_n (pc := 0) C.1 C.2.1 dX9_end_0 rfl (lv_at hl 0 rfl) ?_
  refine lv_iconst (v := 0) (pc := 1) C.1 C.2.1 dX9_end_1 (by decide) ?_
  refine PM_X9_131_0 (pc := 2) C h dX9_end_2 (fun z1 ez1 H locs h => ?_)
  have hw := hw z1 ez1
  refine lv_iload_n (pc := 5) C.1 C.2.1 dX9_end_5 rfl (lv_at hl 1 rfl) ?_
  refine lv_if_lt (tgt := 17) (pc := 6) C.1 C.2.1 dX9_end_6 (by decide) (fun c2 => ?_) (fun c2 => ?_)
  · have hw := hw.1 c2
    refine lv_iconst (v := -1) (pc := 17) C.1 C.2.1 dX9_end_17 (by decide) ?_
    exact rt_i (pc := 18) C hr hlk h hw dX9_end_18
  · have hw := hw.2 c2
    refine lv_iload_n (pc := 9) C.1 C.2.1 dX9_end_9 rfl (lv_at hl 1 rfl) ?_
    refine lv_aload_n (pc := 10) C.1 C.2.1 dX9_end_10 rfl (lv_at hl 0 rfl) ?_
    refine GM_X9_243_0 (pc := 11) C h dX9_end_11 ?_
    refine lv_icmp_le (tgt := 19) (pc := 14) C.1 C.2.1 dX9_end_14 (by decide) (fun c3 => ?_) (fun c3 => ?_)
    · have hw := hw.1 c3
      refine lv_aload_n (pc := 19) C.1 C.2.1 dX9_end_19 rfl (lv_at hl 0 rfl) ?_
      refine lv_iload_n (pc := 20) C.1 C.2.1 dX9_end_20 rfl (lv_at hl 1 rfl) ?_
      refine PM_X9_243_0 (pc := 21) C h dX9_end_21 (fun z4 ez4 H locs h => ?_)
      have hw := hw z4 ez4
      refine lv_iload_n (pc := 24) C.1 C.2.1 dX9_end_24 rfl (lv_at hl 1 rfl) ?_
      exact rt_i (pc := 25) C hr hlk h hw dX9_end_25
    · have hw := hw.2 c3
      refine lv_iconst (v := -1) (pc := 17) C.1 C.2.1 dX9_end_17 (by decide) ?_
      exact rt_i (pc := 18) C hr hlk h hw dX9_end_18

def wp_X9_isDigit (b1 : Int32) (z : St) (P : Int32 → Prop) : Prop :=
  (((b1 < ((48 : Int32))) → P ((0 : Int32))) ∧ (¬ (b1 < ((48 : Int32))) → (((((57 : Int32)) < b1) → P ((0 : Int32))) ∧ (¬ (((57 : Int32)) < b1) → P ((1 : Int32))))))
set_option maxHeartbeats 4000000 in
set_option maxRecDepth 100000 in
theorem m_X9_isDigit (l : Launch) (D : va_G) (t : Ty3) (a : Nat → Nat) (b1 : Int32) (z : St) (P : Int32 → Prop) (hw : wp_X9_isDigit b1 z P) : CtI l D t yX9_isDigit cX9_isDigit 1 (some .boolean) 0 (wM t a) (wM t a z) [.int b1] (fun rr zz => zz = z ∧ P rr) := by
  refine ctI_of (by decide) (Nat.le_of_ble_eq_true rfl) ?_
  intro p e s m args below meth c A ls C hr hlk h hl
  have hl : lv_has ls 1 [(0, .int b1)] := hl
  unfold wp_X9_isDigit at hw
  refine lv_iload_n (pc := 0) C.1 C.2.1 dX9_isDigit_0 rfl (lv_at hl 0 rfl) ?_
  refine lv_bipush (v := 48) (pc := 1) C.1 C.2.1 dX9_isDigit_1 (by decide) ?_
  refine lv_icmp_lt (tgt := 16) (pc := 3) C.1 C.2.1 dX9_isDigit_3 (by decide) (fun c1 => ?_) (fun c1 => ?_)
  · have hw := hw.1 c1
    refine lv_iconst (v := 0) (pc := 16) C.1 C.2.1 dX9_isDigit_16 (by decide) ?_
    exact rt_z (pc := 17) C hr hlk h (Or.inl rfl) ⟨rfl, hw⟩ dX9_isDigit_17
  · have hw := hw.2 c1
    refine lv_iload_n (pc := 6) C.1 C.2.1 dX9_isDigit_6 rfl (lv_at hl 0 rfl) ?_
    refine lv_bipush (v := 57) (pc := 7) C.1 C.2.1 dX9_isDigit_7 (by decide) ?_
    refine lv_icmp_gt (tgt := 16) (pc := 9) C.1 C.2.1 dX9_isDigit_9 (by decide) (fun c2 => ?_) (fun c2 => ?_)
    · have hw := hw.1 c2
      refine lv_iconst (v := 0) (pc := 16) C.1 C.2.1 dX9_isDigit_16 (by decide) ?_
      exact rt_z (pc := 17) C hr hlk h (Or.inl rfl) ⟨rfl, hw⟩ dX9_isDigit_17
    · have hw := hw.2 c2
      refine lv_iconst (v := 1) (pc := 12) C.1 C.2.1 dX9_isDigit_12 (by decide) ?_
      refine lv_goto (tgt := 17) (pc := 13) C.1 C.2.1 dX9_isDigit_13 (by decide) ?_
      exact rt_z (pc := 17) C hr hlk h (Or.inr rfl) ⟨rfl, hw⟩ dX9_isDigit_17
