def wp_X9_isSmall (b1 : Int32) (z : St) (P : Int32 → Prop) : Prop :=
  (((b1 < ((97 : Int32))) → P ((0 : Int32))) ∧ (¬ (b1 < ((97 : Int32))) → (((((122 : Int32)) < b1) → P ((0 : Int32))) ∧ (¬ (((122 : Int32)) < b1) → P ((1 : Int32))))))
set_option maxHeartbeats 4000000 in
set_option maxRecDepth 100000 in
theorem m_X9_isSmall (l : Launch) (D : va_G) (t : Ty3) (a : Nat → Nat) (b1 : Int32) (z : St) (P : Int32 → Prop) (hw : wp_X9_isSmall b1 z P) : CtI l D t yX9_isSmall cX9_isSmall 1 (some .boolean) 0 (wM t a) (wM t a z) [.int b1] (fun rr zz => zz = z ∧ P rr) := by
  refine ctI_of (by decide) (Nat.le_of_ble_eq_true rfl) ?_
  intro p e s m args below meth c A ls C hr hlk h hl
  have hl : lv_has ls 1 [(0, .int b1)] := hl
  unfold wp_X9_isSmall at hw
  refine lv_iload_n (pc := 0) C.1 C.2.1 dX9_isSmall_0 rfl (lv_at hl 0 rfl) ?_
  refine lv_bipush (v := 97) (pc := 1) C.1 C.2.1 dX9_isSmall_1 (by decide) ?_
  refine lv_icmp_lt (tgt := 16) (pc := 3) C.1 C.2.1 dX9_isSmall_3 (by decide) (fun c1 => ?_) (fun c1 => ?_)
  · have hw := hw.1 c1
    refine lv_iconst (v := 0) (pc := 16) C.1 C.2.1 dX9_isSmall_16 (by decide) ?_
    exact rt_z (pc := 17) C hr hlk h (Or.inl rfl) ⟨rfl, hw⟩ dX9_isSmall_17
  · have hw := hw.2 c1
    refine lv_iload_n (pc := 6) C.1 C.2.1 dX9_isSmall_6 rfl (lv_at hl 0 rfl) ?_
    refine lv_bipush (v := 122) (pc := 7) C.1 C.2.1 dX9_isSmall_7 (by decide) ?_
    refine lv_icmp_gt (tgt := 16) (pc := 9) C.1 C.2.1 dX9_isSmall_9 (by decide) (fun c2 => ?_) (fun c2 => ?_)
    · have hw := hw.1 c2
      refine lv_iconst (v := 0) (pc := 16) C.1 C.2.1 dX9_isSmall_16 (by decide) ?_
      exact rt_z (pc := 17) C hr hlk h (Or.inl rfl) ⟨rfl, hw⟩ dX9_isSmall_17
    · have hw := hw.2 c2
      refine lv_iconst (v := 1) (pc := 12) C.1 C.2.1 dX9_isSmall_12 (by decide) ?_
      refine lv_goto (tgt := 17) (pc := 13) C.1 C.2.1 dX9_isSmall_13 (by decide) ?_
      exact rt_z (pc := 17) C hr hlk h (Or.inr rfl) ⟨rfl, hw⟩ dX9_isSmall_17

def wp_X9_next  (z : St) (P : St → Prop) : Prop :=
  (∀ K1 : St → Prop, (∀ (z2 : St), (∀ K3 : Prop, ((∀ z4 : St, z4 = wI z2 38 (gI z2 37) → (∀ z5 : St, z5 = wJ z4 40 ((0 : Int64)) → (∀ K7 : Int32 → Prop, (∀ (s6 : Int32), (∀ z8 : St, z8 = wI z5 39 s6 → (∀ K9 : St → Prop, (∀ (z10 : St), (∀ K11 : St → Prop, (∀ (z12 : St), (((¬ (gI z12 39) = ((2 : Int32))) → P z12) ∧ ((gI z12 39) = ((2 : Int32)) → ((((gI z12 36) ≤ (gI z12 38)) → P z12) ∧ (¬ ((gI z12 36) ≤ (gI z12 38)) → (vp_in (gI z12 38) 300 ∧ (wp_X9_isDigit (gF z12 25 (gI z12 38).toNatClampNeg) z12 (fun r16 => (((r16 = 0) → P z12) ∧ (¬ (r16 = 0) → (∀ K19 : Int64 → Prop, (∀ (s18 : Int64), (∀ z20 : St, z20 = wJ z12 40 s18 → (∀ z21 : St, z21 = wI z20 38 ((gI z20 38) + ((1 : Int32))) → K11 z21)) → K19 s18) → ((((lg_cmp (gJ z12 40) ((10000 : Int64))) ≤ 0) → (vp_in (gI z12 38) 300 ∧ K19 ((((gJ z12 40) * ((10 : Int64))) + (Int32.toInt64 (gF z12 25 (gI z12 38).toNatClampNeg))) - ((48 : Int64))))) ∧ (¬ ((lg_cmp (gJ z12 40) ((10000 : Int64))) ≤ 0) → K19 (gJ z12 40))))))))))))) → K11 z12) → (((¬ (gI z10 39) = ((1 : Int32))) → K11 z10) ∧ ((gI z10 39) = ((1 : Int32)) → ((((gI z10 36) ≤ (gI z10 38)) → K11 z10) ∧ (¬ ((gI z10 36) ≤ (gI z10 38)) → (vp_in (gI z10 38) 300 ∧ (wp_X9_isSmall (gF z10 25 (gI z10 38).toNatClampNeg) z10 (fun r26 => (((r26 = 0) → K11 z10) ∧ (¬ (r26 = 0) → (∀ K29 : Int64 → Prop, (∀ (s28 : Int64), (∀ z30 : St, z30 = wJ z10 40 s28 → (∀ z31 : St, z31 = wI z30 38 ((gI z30 38) + ((1 : Int32))) → K9 z31)) → K29 s28) → (((((7 : Int32)) ≤ ((gI z10 38) - (gI z10 37))) → K29 ((-1 : Int64))) ∧ (¬ (((7 : Int32)) ≤ ((gI z10 38) - (gI z10 37))) → (vp_in (gI z10 38) 300 ∧ K29 ((((gJ z10 40) * ((32 : Int64))) + (Int32.toInt64 (gF z10 25 (gI z10 38).toNatClampNeg))) - ((96 : Int64))))))))))))))))) → K9 z10) → (((¬ (gI z8 39) = ((3 : Int32))) → K9 z8) ∧ ((gI z8 39) = ((3 : Int32)) → (vp_in (gI z8 37) 300 ∧ (∀ z34 : St, z34 = wJ z8 40 (Int32.toInt64 (gF z8 25 (gI z8 37).toNatClampNeg)) → (∀ z35 : St, z35 = wI z34 38 ((gI z34 38) + ((1 : Int32))) → K9 z35))))))) → K7 s6) → (((¬ (gI z5 37) = (gI z5 36)) → (vp_in (gI z5 37) 300 ∧ (wp_X9_isSmall (gF z5 25 (gI z5 37).toNatClampNeg) z5 (fun r38 => (((r38 = 0) → (vp_in (gI z5 37) 300 ∧ (wp_X9_isDigit (gF z5 25 (gI z5 37).toNatClampNeg) z5 (fun r41 => (((r41 = 0) → K7 ((3 : Int32))) ∧ (¬ (r41 = 0) → K7 ((2 : Int32)))))))) ∧ (¬ (r38 = 0) → K7 ((1 : Int32)))))))) ∧ ((gI z5 37) = (gI z5 36) → K7 ((0 : Int32))))))) → K3) → ((((gI z2 36) ≤ (gI z2 37)) → K3) ∧ (¬ ((gI z2 36) ≤ (gI z2 37)) → (vp_in (gI z2 37) 300 ∧ (((¬ (gF z2 25 (gI z2 37).toNatClampNeg) = ((32 : Int32))) → K3) ∧ ((gF z2 25 (gI z2 37).toNatClampNeg) = ((32 : Int32)) → (∀ z45 : St, z45 = wI z2 37 ((gI z2 37) + ((1 : Int32))) → K1 z45))))))) → K1 z2) → (∀ z46 : St, z46 = wI z 37 (gI z 38) → K1 z46))
set_option maxHeartbeats 4000000 in
set_option maxRecDepth 100000 in
theorem m_X9_next (l : Launch) (D : va_G) (t : Ty3) (a : Nat → Nat)  (z : St) (P : St → Prop) (hw : wp_X9_next z P) : CtV l D t yX9_next cX9_next 1 none 1 (wM t a) (wM t a z) [.ref (a 0)] P := by
  refine ctV_of (by decide) (Nat.le_of_ble_eq_true rfl) ?_
  intro p e s m args below meth c A ls C hr hlk h hl
  have hl : lv_has ls 1 [(0, .ref (a 0))] := hl
  unfold wp_X9_next at hw
  refine lv_aload_n (pc := 0) C.1 C.2.1 dX9_next_0 rfl (lv_at hl 0 rfl) ?_
  refine lv_aload_n (pc := 1) C.1 C.2.1 dX9_next_1 rfl (lv_at hl 0 rfl) ?_
  refine GM_X9_249_0 (pc := 2) C h dX9_next_2 ?_
  have hw := hw (fun (z2 : St) => ∀ (H : Heap) (locs : List Loc) (ls : Array Slot), wd D t A s (wM t a z2) H locs → lv_has ls 1 [(0, .ref (a 0))] → W p l e (rmd 1) s m args below meth c H locs 0 0 (QV D t A (wM t a) P below args s) (F0 m 8 ls [])) (by
      intro z2 hw H locs ls h hl
      refine lv_aload_n (pc := 8) C.1 C.2.1 dX9_next_8 rfl (lv_at hl 0 rfl) ?_
      refine GM_X9_252_0 (pc := 9) C h dX9_next_9 ?_
      refine lv_aload_n (pc := 12) C.1 C.2.1 dX9_next_12 rfl (lv_at hl 0 rfl) ?_
      refine GM_X9_243_0 (pc := 13) C h dX9_next_13 ?_
      have hw := hw (∀ (H : Heap) (locs : List Loc) (ls : Array Slot), wd D t A s (wM t a z2) H locs → lv_has ls 1 [(0, .ref (a 0))] → W p l e (rmd 1) s m args below meth c H locs 0 0 (QV D t A (wM t a) P below args s) (F0 m 46 ls [])) (by
          intro hw H locs ls h hl
          refine lv_aload_n (pc := 46) C.1 C.2.1 dX9_next_46 rfl (lv_at hl 0 rfl) ?_
          refine lv_aload_n (pc := 47) C.1 C.2.1 dX9_next_47 rfl (lv_at hl 0 rfl) ?_
          refine GM_X9_252_0 (pc := 48) C h dX9_next_48 ?_
          refine PM_X9_249_0 (pc := 51) C h dX9_next_51 (fun z4 ez4 H locs h => ?_)
          have hw := hw z4 ez4
          refine lv_aload_n (pc := 54) C.1 C.2.1 dX9_next_54 rfl (lv_at hl 0 rfl) ?_
          refine lv_lconst (v := 0) (pc := 55) C.1 C.2.1 dX9_next_55 (by decide) ?_
          refine PM_X9_255_0 (pc := 56) C h dX9_next_56 (fun z5 ez5 H locs h => ?_)
          have hw := hw z5 ez5
          refine lv_aload_n (pc := 59) C.1 C.2.1 dX9_next_59 rfl (lv_at hl 0 rfl) ?_
          refine lv_aload_n (pc := 60) C.1 C.2.1 dX9_next_60 rfl (lv_at hl 0 rfl) ?_
          refine GM_X9_252_0 (pc := 61) C h dX9_next_61 ?_
          refine lv_aload_n (pc := 64) C.1 C.2.1 dX9_next_64 rfl (lv_at hl 0 rfl) ?_
          refine GM_X9_243_0 (pc := 65) C h dX9_next_65 ?_
          have hw := hw (fun (s6 : Int32) => ∀ (H : Heap) (locs : List Loc) (ls : Array Slot), wd D t A s (wM t a z5) H locs → lv_has ls 1 [(0, .ref (a 0))] → W p l e (rmd 1) s m args below meth c H locs 0 0 (QV D t A (wM t a) P below args s) (F0 m 114 ls [.int s6, .ref (a 0)])) (by
              intro s6 hw H locs ls h hl
              refine PM_X9_265_0 (pc := 114) C h dX9_next_114 (fun z8 ez8 H locs h => ?_)
              have hw := hw z8 ez8
              refine lv_aload_n (pc := 117) C.1 C.2.1 dX9_next_117 rfl (lv_at hl 0 rfl) ?_
              refine GM_X9_265_0 (pc := 118) C h dX9_next_118 ?_
              refine lv_iconst (v := 3) (pc := 121) C.1 C.2.1 dX9_next_121 (by decide) ?_
              have hw := hw (fun (z10 : St) => ∀ (H : Heap) (locs : List Loc) (ls : Array Slot), wd D t A s (wM t a z10) H locs → lv_has ls 1 [(0, .ref (a 0))] → W p l e (rmd 1) s m args below meth c H locs 0 0 (QV D t A (wM t a) P below args s) (F0 m 149 ls [])) (by
                  intro z10 hw H locs ls h hl
                  refine lv_aload_n (pc := 149) C.1 C.2.1 dX9_next_149 rfl (lv_at hl 0 rfl) ?_
                  refine GM_X9_265_0 (pc := 150) C h dX9_next_150 ?_
                  refine lv_iconst (v := 1) (pc := 153) C.1 C.2.1 dX9_next_153 (by decide) ?_
                  have hw := hw (fun (z12 : St) => ∀ (H : Heap) (locs : List Loc) (ls : Array Slot), wd D t A s (wM t a z12) H locs → lv_has ls 1 [(0, .ref (a 0))] → W p l e (rmd 1) s m args below meth c H locs 0 0 (QV D t A (wM t a) P below args s) (F0 m 243 ls [])) (by
                      intro z12 hw H locs ls h hl
                      refine lv_aload_n (pc := 243) C.1 C.2.1 dX9_next_243 rfl (lv_at hl 0 rfl) ?_
                      refine GM_X9_265_0 (pc := 244) C h dX9_next_244 ?_
                      refine lv_iconst (v := 2) (pc := 247) C.1 C.2.1 dX9_next_247 (by decide) ?_
                      refine lv_icmp_ne (tgt := 335) (pc := 248) C.1 C.2.1 dX9_next_248 (by decide) (fun c13 => ?_) (fun c13 => ?_)
                      · have hw := hw.1 c13
                        exact rt_v (pc := 335) C hr hlk h hw dX9_next_335
                      · have hw := hw.2 c13
                        refine lv_aload_n (pc := 251) C.1 C.2.1 dX9_next_251 rfl (lv_at hl 0 rfl) ?_
                        refine GM_X9_249_0 (pc := 252) C h dX9_next_252 ?_
                        refine lv_aload_n (pc := 255) C.1 C.2.1 dX9_next_255 rfl (lv_at hl 0 rfl) ?_
                        refine GM_X9_243_0 (pc := 256) C h dX9_next_256 ?_
                        refine lv_icmp_ge (tgt := 335) (pc := 259) C.1 C.2.1 dX9_next_259 (by decide) (fun c14 => ?_) (fun c14 => ?_)
                        · have hw := hw.1 c14
                          exact rt_v (pc := 335) C hr hlk h hw dX9_next_335
                        · have hw := hw.2 c14
                          refine lv_aload_n (pc := 262) C.1 C.2.1 dX9_next_262 rfl (lv_at hl 0 rfl) ?_
                          refine GM_X9_91_0 (pc := 263) C h dX9_next_263 ?_
                          refine lv_aload_n (pc := 266) C.1 C.2.1 dX9_next_266 rfl (lv_at hl 0 rfl) ?_
                          refine GM_X9_249_0 (pc := 267) C h dX9_next_267 ?_
                          refine ldM_25 (pc := 270) C h hw.1 dX9_next_270 ?_
                          have hw := hw.2
                          refine cl_si (pc := 271) (As := [.int (gF z12 25 (gI z12 38).toNatClampNeg)]) (rest := []) C h (m_X9_isDigit l D t a (gF z12 25 (gI z12 38).toNatClampNeg) z12 _ hw) mw_X9_isDigit lm_X9_262 md_X9_isDigit ⟨by decide, by decide⟩ ⟨Nat.zero_le _, Nat.zero_le _⟩ hl.1 rfl (Nat.le_of_ble_eq_true rfl) dX9_next_271 (fun r16 z15 H locs hw h => ?_)
                          rw [hw.1] at h
                          have hw := hw.2
                          refine lv_if_eq (tgt := 335) (pc := 274) C.1 C.2.1 dX9_next_274 (by decide) (fun c17 => ?_) (fun c17 => ?_)
                          · have hw := hw.1 c17
                            exact rt_v (pc := 335) C hr hlk h hw dX9_next_335
                          · have hw := hw.2 c17
                            refine lv_aload_n (pc := 277) C.1 C.2.1 dX9_next_277 rfl (lv_at hl 0 rfl) ?_
                            refine lv_aload_n (pc := 278) C.1 C.2.1 dX9_next_278 rfl (lv_at hl 0 rfl) ?_
                            refine GM_X9_255_0 (pc := 279) C h dX9_next_279 ?_
                            refine lv_ldc2 (pc := 282) C.1 C.2.1 C.2.2.2.1 (C.2.2.2.2 _ lc_X9_157) dX9_next_282 ?_
                            refine W.lcmp (pc := 285) C.1 C.2.1 dX9_next_285 ?_
                            have hw := hw (fun (s18 : Int64) => ∀ (H : Heap) (locs : List Loc) (ls : Array Slot), wd D t A s (wM t a z12) H locs → lv_has ls 1 [(0, .ref (a 0))] → W p l e (rmd 1) s m args below meth c H locs 0 0 (QV D t A (wM t a) P below args s) (F0 m 319 ls [.long s18, .ref (a 0)])) (by
                                intro s18 hw H locs ls h hl
                                refine PM_X9_255_0 (pc := 319) C h dX9_next_319 (fun z20 ez20 H locs h => ?_)
                                have hw := hw z20 ez20
                                refine lv_aload_n (pc := 322) C.1 C.2.1 dX9_next_322 rfl (lv_at hl 0 rfl) ?_
                                refine lv_dup (pc := 323) C.1 C.2.1 dX9_next_323 rfl ?_
                                refine GM_X9_249_0 (pc := 324) C h dX9_next_324 ?_
                                refine lv_iconst (v := 1) (pc := 327) C.1 C.2.1 dX9_next_327 (by decide) ?_
                                refine lv_iadd (pc := 328) C.1 C.2.1 dX9_next_328 ?_
                                refine PM_X9_249_0 (pc := 329) C h dX9_next_329 (fun z21 ez21 H locs h => ?_)
                                have hw := hw z21 ez21
                                refine lv_goto (tgt := 243) (pc := 332) C.1 C.2.1 dX9_next_332 (by decide) ?_
                                exact hw _ _ _ h (lv_sub hl [0] rfl))
                            refine lv_if_le (tgt := 296) (pc := 286) C.1 C.2.1 dX9_next_286 (by decide) (fun c22 => ?_) (fun c22 => ?_)
                            · have hw := hw.1 c22
                              refine lv_aload_n (pc := 296) C.1 C.2.1 dX9_next_296 rfl (lv_at hl 0 rfl) ?_
                              refine GM_X9_255_0 (pc := 297) C h dX9_next_297 ?_
                              refine lv_ldc2 (pc := 300) C.1 C.2.1 C.2.2.2.1 (C.2.2.2.2 _ lc_X9_196) dX9_next_300 ?_
                              refine lv_lmul (pc := 303) C.1 C.2.1 dX9_next_303 ?_
                              refine lv_aload_n (pc := 304) C.1 C.2.1 dX9_next_304 rfl (lv_at hl 0 rfl) ?_
                              refine GM_X9_91_0 (pc := 305) C h dX9_next_305 ?_
                              refine lv_aload_n (pc := 308) C.1 C.2.1 dX9_next_308 rfl (lv_at hl 0 rfl) ?_
                              refine GM_X9_249_0 (pc := 309) C h dX9_next_309 ?_
                              refine ldM_25 (pc := 312) C h hw.1 dX9_next_312 ?_
                              have hw := hw.2
                              refine lv_i2l (pc := 313) C.1 C.2.1 dX9_next_313 rfl ?_
                              refine lv_ladd (pc := 314) C.1 C.2.1 dX9_next_314 ?_
                              refine lv_ldc2 (pc := 315) C.1 C.2.1 C.2.2.2.1 (C.2.2.2.2 _ lc_X9_241) dX9_next_315 ?_
                              refine lv_lsub (pc := 318) C.1 C.2.1 dX9_next_318 ?_
                              exact hw _ _ _ h (lv_sub hl [0] rfl)
                            · have hw := hw.2 c22
                              refine lv_aload_n (pc := 289) C.1 C.2.1 dX9_next_289 rfl (lv_at hl 0 rfl) ?_
                              refine GM_X9_255_0 (pc := 290) C h dX9_next_290 ?_
                              refine lv_goto (tgt := 319) (pc := 293) C.1 C.2.1 dX9_next_293 (by decide) ?_
                              exact hw _ _ _ h (lv_sub hl [0] rfl))
                  refine lv_icmp_ne (tgt := 243) (pc := 154) C.1 C.2.1 dX9_next_154 (by decide) (fun c23 => ?_) (fun c23 => ?_)
                  · have hw := hw.1 c23
                    exact hw _ _ _ h (lv_sub hl [0] rfl)
                  · have hw := hw.2 c23
                    refine lv_aload_n (pc := 157) C.1 C.2.1 dX9_next_157 rfl (lv_at hl 0 rfl) ?_
                    refine GM_X9_249_0 (pc := 158) C h dX9_next_158 ?_
                    refine lv_aload_n (pc := 161) C.1 C.2.1 dX9_next_161 rfl (lv_at hl 0 rfl) ?_
                    refine GM_X9_243_0 (pc := 162) C h dX9_next_162 ?_
                    refine lv_icmp_ge (tgt := 243) (pc := 165) C.1 C.2.1 dX9_next_165 (by decide) (fun c24 => ?_) (fun c24 => ?_)
                    · have hw := hw.1 c24
                      exact hw _ _ _ h (lv_sub hl [0] rfl)
                    · have hw := hw.2 c24
                      refine lv_aload_n (pc := 168) C.1 C.2.1 dX9_next_168 rfl (lv_at hl 0 rfl) ?_
                      refine GM_X9_91_0 (pc := 169) C h dX9_next_169 ?_
                      refine lv_aload_n (pc := 172) C.1 C.2.1 dX9_next_172 rfl (lv_at hl 0 rfl) ?_
                      refine GM_X9_249_0 (pc := 173) C h dX9_next_173 ?_
                      refine ldM_25 (pc := 176) C h hw.1 dX9_next_176 ?_
                      have hw := hw.2
                      refine cl_si (pc := 177) (As := [.int (gF z10 25 (gI z10 38).toNatClampNeg)]) (rest := []) C h (m_X9_isSmall l D t a (gF z10 25 (gI z10 38).toNatClampNeg) z10 _ hw) mw_X9_isSmall lm_X9_259 md_X9_isSmall ⟨by decide, by decide⟩ ⟨Nat.zero_le _, Nat.zero_le _⟩ hl.1 rfl (Nat.le_of_ble_eq_true rfl) dX9_next_177 (fun r26 z25 H locs hw h => ?_)
                      rw [hw.1] at h
                      have hw := hw.2
                      refine lv_if_eq (tgt := 243) (pc := 180) C.1 C.2.1 dX9_next_180 (by decide) (fun c27 => ?_) (fun c27 => ?_)
                      · have hw := hw.1 c27
                        exact hw _ _ _ h (lv_sub hl [0] rfl)
                      · have hw := hw.2 c27
                        refine lv_aload_n (pc := 183) C.1 C.2.1 dX9_next_183 rfl (lv_at hl 0 rfl) ?_
                        refine lv_aload_n (pc := 184) C.1 C.2.1 dX9_next_184 rfl (lv_at hl 0 rfl) ?_
                        refine GM_X9_249_0 (pc := 185) C h dX9_next_185 ?_
                        refine lv_aload_n (pc := 188) C.1 C.2.1 dX9_next_188 rfl (lv_at hl 0 rfl) ?_
                        refine GM_X9_252_0 (pc := 189) C h dX9_next_189 ?_
                        refine lv_isub (pc := 192) C.1 C.2.1 dX9_next_192 ?_
                        refine lv_bipush (v := 7) (pc := 193) C.1 C.2.1 dX9_next_193 (by decide) ?_
                        have hw := hw (fun (s28 : Int64) => ∀ (H : Heap) (locs : List Loc) (ls : Array Slot), wd D t A s (wM t a z10) H locs → lv_has ls 1 [(0, .ref (a 0))] → W p l e (rmd 1) s m args below meth c H locs 0 0 (QV D t A (wM t a) P below args s) (F0 m 227 ls [.long s28, .ref (a 0)])) (by
                            intro s28 hw H locs ls h hl
                            refine PM_X9_255_0 (pc := 227) C h dX9_next_227 (fun z30 ez30 H locs h => ?_)
                            have hw := hw z30 ez30
                            refine lv_aload_n (pc := 230) C.1 C.2.1 dX9_next_230 rfl (lv_at hl 0 rfl) ?_
                            refine lv_dup (pc := 231) C.1 C.2.1 dX9_next_231 rfl ?_
                            refine GM_X9_249_0 (pc := 232) C h dX9_next_232 ?_
                            refine lv_iconst (v := 1) (pc := 235) C.1 C.2.1 dX9_next_235 (by decide) ?_
                            refine lv_iadd (pc := 236) C.1 C.2.1 dX9_next_236 ?_
                            refine PM_X9_249_0 (pc := 237) C h dX9_next_237 (fun z31 ez31 H locs h => ?_)
                            have hw := hw z31 ez31
                            refine lv_goto (tgt := 149) (pc := 240) C.1 C.2.1 dX9_next_240 (by decide) ?_
                            exact hw _ _ _ h (lv_sub hl [0] rfl))
                        refine lv_icmp_ge (tgt := 224) (pc := 195) C.1 C.2.1 dX9_next_195 (by decide) (fun c32 => ?_) (fun c32 => ?_)
                        · have hw := hw.1 c32
                          refine lv_ldc2 (pc := 224) C.1 C.2.1 C.2.2.2.1 (C.2.2.2.2 _ lc_X9_272) dX9_next_224 ?_
                          exact hw _ _ _ h (lv_sub hl [0] rfl)
                        · have hw := hw.2 c32
                          refine lv_aload_n (pc := 198) C.1 C.2.1 dX9_next_198 rfl (lv_at hl 0 rfl) ?_
                          refine GM_X9_255_0 (pc := 199) C h dX9_next_199 ?_
                          refine lv_ldc2 (pc := 202) C.1 C.2.1 C.2.2.2.1 (C.2.2.2.2 _ lc_X9_268) dX9_next_202 ?_
                          refine lv_lmul (pc := 205) C.1 C.2.1 dX9_next_205 ?_
                          refine lv_aload_n (pc := 206) C.1 C.2.1 dX9_next_206 rfl (lv_at hl 0 rfl) ?_
                          refine GM_X9_91_0 (pc := 207) C h dX9_next_207 ?_
                          refine lv_aload_n (pc := 210) C.1 C.2.1 dX9_next_210 rfl (lv_at hl 0 rfl) ?_
                          refine GM_X9_249_0 (pc := 211) C h dX9_next_211 ?_
                          refine ldM_25 (pc := 214) C h hw.1 dX9_next_214 ?_
                          have hw := hw.2
                          refine lv_i2l (pc := 215) C.1 C.2.1 dX9_next_215 rfl ?_
                          refine lv_ladd (pc := 216) C.1 C.2.1 dX9_next_216 ?_
                          refine lv_ldc2 (pc := 217) C.1 C.2.1 C.2.2.2.1 (C.2.2.2.2 _ lc_X9_270) dX9_next_217 ?_
                          refine lv_lsub (pc := 220) C.1 C.2.1 dX9_next_220 ?_
                          refine lv_goto (tgt := 227) (pc := 221) C.1 C.2.1 dX9_next_221 (by decide) ?_
                          exact hw _ _ _ h (lv_sub hl [0] rfl))
              refine lv_icmp_ne (tgt := 149) (pc := 122) C.1 C.2.1 dX9_next_122 (by decide) (fun c33 => ?_) (fun c33 => ?_)
              · have hw := hw.1 c33
                exact hw _ _ _ h (lv_sub hl [0] rfl)
              · have hw := hw.2 c33
                refine lv_aload_n (pc := 125) C.1 C.2.1 dX9_next_125 rfl (lv_at hl 0 rfl) ?_
                refine lv_aload_n (pc := 126) C.1 C.2.1 dX9_next_126 rfl (lv_at hl 0 rfl) ?_
                refine GM_X9_91_0 (pc := 127) C h dX9_next_127 ?_
                refine lv_aload_n (pc := 130) C.1 C.2.1 dX9_next_130 rfl (lv_at hl 0 rfl) ?_
                refine GM_X9_252_0 (pc := 131) C h dX9_next_131 ?_
                refine ldM_25 (pc := 134) C h hw.1 dX9_next_134 ?_
                have hw := hw.2
                refine lv_i2l (pc := 135) C.1 C.2.1 dX9_next_135 rfl ?_
                refine PM_X9_255_0 (pc := 136) C h dX9_next_136 (fun z34 ez34 H locs h => ?_)
                have hw := hw z34 ez34
                refine lv_aload_n (pc := 139) C.1 C.2.1 dX9_next_139 rfl (lv_at hl 0 rfl) ?_
                refine lv_dup (pc := 140) C.1 C.2.1 dX9_next_140 rfl ?_
                refine GM_X9_249_0 (pc := 141) C h dX9_next_141 ?_
                refine lv_iconst (v := 1) (pc := 144) C.1 C.2.1 dX9_next_144 (by decide) ?_
                refine lv_iadd (pc := 145) C.1 C.2.1 dX9_next_145 ?_
                refine PM_X9_249_0 (pc := 146) C h dX9_next_146 (fun z35 ez35 H locs h => ?_)
                have hw := hw z35 ez35
                exact hw _ _ _ h (lv_sub hl [0] rfl))
          refine lv_icmp_ne (tgt := 75) (pc := 68) C.1 C.2.1 dX9_next_68 (by decide) (fun c36 => ?_) (fun c36 => ?_)
          · have hw := hw.1 c36
            refine lv_aload_n (pc := 75) C.1 C.2.1 dX9_next_75 rfl (lv_at hl 0 rfl) ?_
            refine GM_X9_91_0 (pc := 76) C h dX9_next_76 ?_
            refine lv_aload_n (pc := 79) C.1 C.2.1 dX9_next_79 rfl (lv_at hl 0 rfl) ?_
            refine GM_X9_252_0 (pc := 80) C h dX9_next_80 ?_
            refine ldM_25 (pc := 83) C h hw.1 dX9_next_83 ?_
            have hw := hw.2
            refine cl_si (pc := 84) (As := [.int (gF z5 25 (gI z5 37).toNatClampNeg)]) (rest := [.ref (a 0)]) C h (m_X9_isSmall l D t a (gF z5 25 (gI z5 37).toNatClampNeg) z5 _ hw) mw_X9_isSmall lm_X9_259 md_X9_isSmall ⟨by decide, by decide⟩ ⟨Nat.zero_le _, Nat.zero_le _⟩ hl.1 rfl (Nat.le_of_ble_eq_true rfl) dX9_next_84 (fun r38 z37 H locs hw h => ?_)
            rw [hw.1] at h
            have hw := hw.2
            refine lv_if_eq (tgt := 94) (pc := 87) C.1 C.2.1 dX9_next_87 (by decide) (fun c39 => ?_) (fun c39 => ?_)
            · have hw := hw.1 c39
              refine lv_aload_n (pc := 94) C.1 C.2.1 dX9_next_94 rfl (lv_at hl 0 rfl) ?_
              refine GM_X9_91_0 (pc := 95) C h dX9_next_95 ?_
              refine lv_aload_n (pc := 98) C.1 C.2.1 dX9_next_98 rfl (lv_at hl 0 rfl) ?_
              refine GM_X9_252_0 (pc := 99) C h dX9_next_99 ?_
              refine ldM_25 (pc := 102) C h hw.1 dX9_next_102 ?_
              have hw := hw.2
              refine cl_si (pc := 103) (As := [.int (gF z5 25 (gI z5 37).toNatClampNeg)]) (rest := [.ref (a 0)]) C h (m_X9_isDigit l D t a (gF z5 25 (gI z5 37).toNatClampNeg) z5 _ hw) mw_X9_isDigit lm_X9_262 md_X9_isDigit ⟨by decide, by decide⟩ ⟨Nat.zero_le _, Nat.zero_le _⟩ hl.1 rfl (Nat.le_of_ble_eq_true rfl) dX9_next_103 (fun r41 z40 H locs hw h => ?_)
              rw [hw.1] at h
              have hw := hw.2
              refine lv_if_eq (tgt := 113) (pc := 106) C.1 C.2.1 dX9_next_106 (by decide) (fun c42 => ?_) (fun c42 => ?_)
              · have hw := hw.1 c42
                refine lv_iconst (v := 3) (pc := 113) C.1 C.2.1 dX9_next_113 (by decide) ?_
                exact hw _ _ _ h (lv_sub hl [0] rfl)
              · have hw := hw.2 c42
                refine lv_iconst (v := 2) (pc := 109) C.1 C.2.1 dX9_next_109 (by decide) ?_
                refine lv_goto (tgt := 114) (pc := 110) C.1 C.2.1 dX9_next_110 (by decide) ?_
                exact hw _ _ _ h (lv_sub hl [0] rfl)
            · have hw := hw.2 c39
              refine lv_iconst (v := 1) (pc := 90) C.1 C.2.1 dX9_next_90 (by decide) ?_
              refine lv_goto (tgt := 114) (pc := 91) C.1 C.2.1 dX9_next_91 (by decide) ?_
              exact hw _ _ _ h (lv_sub hl [0] rfl)
          · have hw := hw.2 c36
            refine lv_iconst (v := 0) (pc := 71) C.1 C.2.1 dX9_next_71 (by decide) ?_
            refine lv_goto (tgt := 114) (pc := 72) C.1 C.2.1 dX9_next_72 (by decide) ?_
            exact hw _ _ _ h (lv_sub hl [0] rfl))
      refine lv_icmp_ge (tgt := 46) (pc := 16) C.1 C.2.1 dX9_next_16 (by decide) (fun c43 => ?_) (fun c43 => ?_)
      · have hw := hw.1 c43
        exact hw _ _ _ h (lv_sub hl [0] rfl)
      · have hw := hw.2 c43
        refine lv_aload_n (pc := 19) C.1 C.2.1 dX9_next_19 rfl (lv_at hl 0 rfl) ?_
        refine GM_X9_91_0 (pc := 20) C h dX9_next_20 ?_
        refine lv_aload_n (pc := 23) C.1 C.2.1 dX9_next_23 rfl (lv_at hl 0 rfl) ?_
        refine GM_X9_252_0 (pc := 24) C h dX9_next_24 ?_
        refine ldM_25 (pc := 27) C h hw.1 dX9_next_27 ?_
        have hw := hw.2
        refine lv_bipush (v := 32) (pc := 28) C.1 C.2.1 dX9_next_28 (by decide) ?_
        refine lv_icmp_ne (tgt := 46) (pc := 30) C.1 C.2.1 dX9_next_30 (by decide) (fun c44 => ?_) (fun c44 => ?_)
        · have hw := hw.1 c44
          exact hw _ _ _ h (lv_sub hl [0] rfl)
        · have hw := hw.2 c44
          refine lv_aload_n (pc := 33) C.1 C.2.1 dX9_next_33 rfl (lv_at hl 0 rfl) ?_
          refine lv_dup (pc := 34) C.1 C.2.1 dX9_next_34 rfl ?_
          refine GM_X9_252_0 (pc := 35) C h dX9_next_35 ?_
          refine lv_iconst (v := 1) (pc := 38) C.1 C.2.1 dX9_next_38 (by decide) ?_
          refine lv_iadd (pc := 39) C.1 C.2.1 dX9_next_39 ?_
          refine PM_X9_252_0 (pc := 40) C h dX9_next_40 (fun z45 ez45 H locs h => ?_)
          have hw := hw z45 ez45
          refine lv_goto (tgt := 8) (pc := 43) C.1 C.2.1 dX9_next_43 (by decide) ?_
          exact hw _ _ _ h (lv_sub hl [0] rfl))
  refine PM_X9_252_0 (pc := 5) C h dX9_next_5 (fun z46 ez46 H locs h => ?_)
  have hw := hw z46 ez46
  exact hw _ _ _ h (lv_sub hl [0] rfl)

def wp_X9_must (b1 : Int32) (z : St) (P : St → Prop) : Prop :=
  (∀ K1 : St → Prop, (∀ (z2 : St), (((¬ (gI z2 42) = 0) → P z2) ∧ ((gI z2 42) = 0 → (wp_X9_next z2 (fun z4 => P z4)))) → K1 z2) → (((¬ (gI z 42) = 0) → K1 z) ∧ ((gI z 42) = 0 → (((¬ b1 = 0) → K1 z) ∧ (b1 = 0 → (∀ z8 : St, z8 = wI z 42 ((1 : Int32)) → (∀ z9 : St, z9 = wI z8 41 (gI z8 37) → K1 z9)))))))
set_option maxHeartbeats 4000000 in
set_option maxRecDepth 100000 in
theorem m_X9_must (l : Launch) (D : va_G) (t : Ty3) (a : Nat → Nat) (b1 : Int32) (z : St) (P : St → Prop) (hw : wp_X9_must b1 z P) : CtV l D t yX9_must cX9_must 2 none 2 (wM t a) (wM t a z) [.ref (a 0), .int b1] P := by
  refine ctV_of (by decide) (Nat.le_of_ble_eq_true rfl) ?_
  intro p e s m args below meth c A ls C hr hlk h hl
  have hl : lv_has ls 2 [(0, .ref (a 0)), (1, .int b1)] := hl
  unfold wp_X9_must at hw
  refine lv_aload_n (pc := 0) C.1 C.2.1 dX9_must_0 rfl (lv_at hl 0 rfl) ?_
  refine GM_X9_274_0 (pc := 1) C h dX9_must_1 ?_
  have hw := hw (fun (z2 : St) => ∀ (H : Heap) (locs : List Loc) (ls : Array Slot), wd D t A s (wM t a z2) H locs → lv_has ls 2 [(0, .ref (a 0))] → W p l e (rmd 2) s m args below meth c H locs 0 0 (QV D t A (wM t a) P below args s) (F0 m 24 ls [])) (by
      intro z2 hw H locs ls h hl
      refine lv_aload_n (pc := 24) C.1 C.2.1 dX9_must_24 rfl (lv_at hl 0 rfl) ?_
      refine GM_X9_274_0 (pc := 25) C h dX9_must_25 ?_
      refine lv_if_ne (tgt := 35) (pc := 28) C.1 C.2.1 dX9_must_28 (by decide) (fun c3 => ?_) (fun c3 => ?_)
      · have hw := hw.1 c3
        exact rt_v (pc := 35) C hr hlk h hw dX9_must_35
      · have hw := hw.2 c3
        refine lv_aload_n (pc := 31) C.1 C.2.1 dX9_must_31 rfl (lv_at hl 0 rfl) ?_
        refine cl_vv (pc := 32) (As := []) (rest := []) C h (m_X9_next l D t a z2 _ hw) mw_X9_next lm_X9_277 md_X9_next rcM_0 ⟨by decide, by decide⟩ ⟨Nat.zero_le _, Nat.zero_le _⟩ hl.1 rfl (Nat.le_of_ble_eq_true rfl) dX9_must_32 (fun z4 H locs hw h => ?_)
        exact rt_v (pc := 35) C hr hlk h hw dX9_must_35)
  refine lv_if_ne (tgt := 24) (pc := 4) C.1 C.2.1 dX9_must_4 (by decide) (fun c6 => ?_) (fun c6 => ?_)
  · have hw := hw.1 c6
    exact hw _ _ _ h (lv_sub hl [0] rfl)
  · have hw := hw.2 c6
    refine lv_iload_n (pc := 7) C.1 C.2.1 dX9_must_7 rfl (lv_at hl 1 rfl) ?_
    refine lv_if_ne (tgt := 24) (pc := 8) C.1 C.2.1 dX9_must_8 (by decide) (fun c7 => ?_) (fun c7 => ?_)
    · have hw := hw.1 c7
      exact hw _ _ _ h (lv_sub hl [0] rfl)
    · have hw := hw.2 c7
      refine lv_aload_n (pc := 11) C.1 C.2.1 dX9_must_11 rfl (lv_at hl 0 rfl) ?_
      refine lv_iconst (v := 1) (pc := 12) C.1 C.2.1 dX9_must_12 (by decide) ?_
      refine PM_X9_274_0 (pc := 13) C h (Or.inr rfl) dX9_must_13 (fun z8 ez8 H locs h => ?_)
      have hw := hw z8 ez8
      refine lv_aload_n (pc := 16) C.1 C.2.1 dX9_must_16 rfl (lv_at hl 0 rfl) ?_
      refine lv_aload_n (pc := 17) C.1 C.2.1 dX9_must_17 rfl (lv_at hl 0 rfl) ?_
      refine GM_X9_252_0 (pc := 18) C h dX9_must_18 ?_
      refine PM_X9_94_0 (pc := 21) C h dX9_must_21 (fun z9 ez9 H locs h => ?_)
      have hw := hw z9 ez9
      exact hw _ _ _ h (lv_sub hl [0] rfl)

def wp_X9_isWord (b1 : Int32) (b2 : Int32) (b3 : Int32) (b4 : Int32) (b5 : Int32) (b6 : Int32) (z : St) (P : Int32 → Prop) : Prop :=
  (∀ x1 : Int64, x1 = ((((Int32.toInt64 b1) - ((96 : Int64))) * ((32 : Int64))) + (Int32.toInt64 b2)) - ((96 : Int64)) → (∀ K3 : Int64 → Prop, (∀ (s2 : Int64), (∀ K5 : Int64 → Prop, (∀ (s4 : Int64), (∀ K7 : Int64 → Prop, (∀ (s6 : Int64), (∀ K9 : Int64 → Prop, (∀ (s8 : Int64), (((¬ (gI z 39) = ((1 : Int32))) → P ((0 : Int32))) ∧ ((gI z 39) = ((1 : Int32)) → (((¬ (lg_cmp (gJ z 40) s8) = 0) → P ((0 : Int32))) ∧ ((lg_cmp (gJ z 40) s8) = 0 → P ((1 : Int32)))))) → K9 s8) → (((¬ b6 = 0) → K9 (((s6 * ((32 : Int64))) + (Int32.toInt64 b6)) - ((96 : Int64)))) ∧ (b6 = 0 → K9 s6))) → K7 s6) → (((¬ b5 = 0) → K7 (((s4 * ((32 : Int64))) + (Int32.toInt64 b5)) - ((96 : Int64)))) ∧ (b5 = 0 → K7 s4))) → K5 s4) → (((¬ b4 = 0) → K5 (((s2 * ((32 : Int64))) + (Int32.toInt64 b4)) - ((96 : Int64)))) ∧ (b4 = 0 → K5 s2))) → K3 s2) → (((¬ b3 = 0) → K3 (((x1 * ((32 : Int64))) + (Int32.toInt64 b3)) - ((96 : Int64)))) ∧ (b3 = 0 → K3 x1))))
set_option maxHeartbeats 4000000 in
set_option maxRecDepth 100000 in
theorem m_X9_isWord (l : Launch) (D : va_G) (t : Ty3) (a : Nat → Nat) (b1 : Int32) (b2 : Int32) (b3 : Int32) (b4 : Int32) (b5 : Int32) (b6 : Int32) (z : St) (P : Int32 → Prop) (hw : wp_X9_isWord b1 b2 b3 b4 b5 b6 z P) : CtI l D t yX9_isWord cX9_isWord 9 (some .boolean) 0 (wM t a) (wM t a z) [.ref (a 0), .int b1, .int b2, .int b3, .int b4, .int b5, .int b6] (fun rr zz => zz = z ∧ P rr) := by
  refine ctI_of (by decide) (Nat.le_of_ble_eq_true rfl) ?_
  intro p e s m args below meth c A ls C hr hlk h hl
  have hl : lv_has ls 9 [(0, .ref (a 0)), (1, .int b1), (2, .int b2), (3, .int b3), (4, .int b4), (5, .int b5), (6, .int b6)] := hl
  unfold wp_X9_isWord at hw
  refine lv_iload_n (pc := 0) C.1 C.2.1 dX9_isWord_0 rfl (lv_at hl 1 rfl) ?_
  refine lv_i2l (pc := 1) C.1 C.2.1 dX9_isWord_1 rfl ?_
  refine lv_ldc2 (pc := 2) C.1 C.2.1 C.2.2.2.1 (C.2.2.2.2 _ lc_X9_270) dX9_isWord_2 ?_
  refine lv_lsub (pc := 5) C.1 C.2.1 dX9_isWord_5 ?_
  refine lv_ldc2 (pc := 6) C.1 C.2.1 C.2.2.2.1 (C.2.2.2.2 _ lc_X9_268) dX9_isWord_6 ?_
  refine lv_lmul (pc := 9) C.1 C.2.1 dX9_isWord_9 ?_
  refine lv_iload_n (pc := 10) C.1 C.2.1 dX9_isWord_10 rfl (lv_at hl 2 rfl) ?_
  refine lv_i2l (pc := 11) C.1 C.2.1 dX9_isWord_11 rfl ?_
  refine lv_ladd (pc := 12) C.1 C.2.1 dX9_isWord_12 ?_
  refine lv_ldc2 (pc := 13) C.1 C.2.1 C.2.2.2.1 (C.2.2.2.2 _ lc_X9_270) dX9_isWord_13 ?_
  refine lv_lsub (pc := 16) C.1 C.2.1 dX9_isWord_16 ?_
  refine lv_topl (fun x1 ex1 => ?_)
  have hw := hw x1 ex1
  refine lv_lstore (lv' := [(7, .long x1), (0, .ref (a 0)), (1, .int b1), (2, .int b2), (3, .int b3), (4, .int b4), (5, .int b5), (6, .int b6)]) (pc := 17) C.1 C.2.1 dX9_isWord_17 hl (by decide) rfl (fun ls hl => ?_)
  refine lv_iload_n (pc := 19) C.1 C.2.1 dX9_isWord_19 rfl (lv_at hl 4 rfl) ?_
  have hw := hw (fun (s2 : Int64) => ∀ (H : Heap) (locs : List Loc) (ls : Array Slot), wd D t A s (wM t a z) H locs → lv_has ls 9 [(0, .ref (a 0)), (4, .int b4), (5, .int b5), (6, .int b6)] → W p l e (rmd 0) s m args below meth c H locs 0 0 (QI D t A (wM t a) (fun rr zz => zz = z ∧ P rr) below args s) (F0 m 41 ls [.long s2])) (by
      intro s2 hw H locs ls h hl
      refine lv_lstore (lv' := [(7, .long s2), (0, .ref (a 0)), (4, .int b4), (5, .int b5), (6, .int b6)]) (pc := 41) C.1 C.2.1 dX9_isWord_41 hl (by decide) rfl (fun ls hl => ?_)
      refine lv_iload (pc := 43) C.1 C.2.1 dX9_isWord_43 (lv_at hl 2 rfl) ?_
      have hw := hw (fun (s4 : Int64) => ∀ (H : Heap) (locs : List Loc) (ls : Array Slot), wd D t A s (wM t a z) H locs → lv_has ls 9 [(0, .ref (a 0)), (5, .int b5), (6, .int b6)] → W p l e (rmd 0) s m args below meth c H locs 0 0 (QI D t A (wM t a) (fun rr zz => zz = z ∧ P rr) below args s) (F0 m 67 ls [.long s4])) (by
          intro s4 hw H locs ls h hl
          refine lv_lstore (lv' := [(7, .long s4), (0, .ref (a 0)), (5, .int b5), (6, .int b6)]) (pc := 67) C.1 C.2.1 dX9_isWord_67 hl (by decide) rfl (fun ls hl => ?_)
          refine lv_iload (pc := 69) C.1 C.2.1 dX9_isWord_69 (lv_at hl 2 rfl) ?_
          have hw := hw (fun (s6 : Int64) => ∀ (H : Heap) (locs : List Loc) (ls : Array Slot), wd D t A s (wM t a z) H locs → lv_has ls 9 [(0, .ref (a 0)), (6, .int b6)] → W p l e (rmd 0) s m args below meth c H locs 0 0 (QI D t A (wM t a) (fun rr zz => zz = z ∧ P rr) below args s) (F0 m 93 ls [.long s6])) (by
              intro s6 hw H locs ls h hl
              refine lv_lstore (lv' := [(7, .long s6), (0, .ref (a 0)), (6, .int b6)]) (pc := 93) C.1 C.2.1 dX9_isWord_93 hl (by decide) rfl (fun ls hl => ?_)
              refine lv_iload (pc := 95) C.1 C.2.1 dX9_isWord_95 (lv_at hl 2 rfl) ?_
              have hw := hw (fun (s8 : Int64) => ∀ (H : Heap) (locs : List Loc) (ls : Array Slot), wd D t A s (wM t a z) H locs → lv_has ls 9 [(0, .ref (a 0))] → W p l e (rmd 0) s m args below meth c H locs 0 0 (QI D t A (wM t a) (fun rr zz => zz = z ∧ P rr) below args s) (F0 m 119 ls [.long s8])) (by
                  intro s8 hw H locs ls h hl
                  refine lv_lstore (lv' := [(7, .long s8), (0, .ref (a 0))]) (pc := 119) C.1 C.2.1 dX9_isWord_119 hl (by decide) rfl (fun ls hl => ?_)
                  refine lv_aload_n (pc := 121) C.1 C.2.1 dX9_isWord_121 rfl (lv_at hl 1 rfl) ?_
                  refine GM_X9_265_0 (pc := 122) C h dX9_isWord_122 ?_
                  refine lv_iconst (v := 1) (pc := 125) C.1 C.2.1 dX9_isWord_125 (by decide) ?_
                  refine lv_icmp_ne (tgt := 143) (pc := 126) C.1 C.2.1 dX9_isWord_126 (by decide) (fun c10 => ?_) (fun c10 => ?_)
                  · have hw := hw.1 c10
                    refine lv_iconst (v := 0) (pc := 143) C.1 C.2.1 dX9_isWord_143 (by decide) ?_
                    exact rt_z (pc := 144) C hr hlk h (Or.inl rfl) ⟨rfl, hw⟩ dX9_isWord_144
                  · have hw := hw.2 c10
                    refine lv_aload_n (pc := 129) C.1 C.2.1 dX9_isWord_129 rfl (lv_at hl 1 rfl) ?_
                    refine GM_X9_255_0 (pc := 130) C h dX9_isWord_130 ?_
                    refine lv_lload (pc := 133) C.1 C.2.1 dX9_isWord_133 (lv_at hl 0 rfl) ?_
                    refine W.lcmp (pc := 135) C.1 C.2.1 dX9_isWord_135 ?_
                    refine lv_if_ne (tgt := 143) (pc := 136) C.1 C.2.1 dX9_isWord_136 (by decide) (fun c11 => ?_) (fun c11 => ?_)
                    · have hw := hw.1 c11
                      refine lv_iconst (v := 0) (pc := 143) C.1 C.2.1 dX9_isWord_143 (by decide) ?_
                      exact rt_z (pc := 144) C hr hlk h (Or.inl rfl) ⟨rfl, hw⟩ dX9_isWord_144
                    · have hw := hw.2 c11
                      refine lv_iconst (v := 1) (pc := 139) C.1 C.2.1 dX9_isWord_139 (by decide) ?_
                      refine lv_goto (tgt := 144) (pc := 140) C.1 C.2.1 dX9_isWord_140 (by decide) ?_
                      exact rt_z (pc := 144) C hr hlk h (Or.inr rfl) ⟨rfl, hw⟩ dX9_isWord_144)
              refine lv_if_ne (tgt := 105) (pc := 97) C.1 C.2.1 dX9_isWord_97 (by decide) (fun c12 => ?_) (fun c12 => ?_)
              · have hw := hw.1 c12
                refine lv_lload (pc := 105) C.1 C.2.1 dX9_isWord_105 (lv_at hl 0 rfl) ?_
                refine lv_ldc2 (pc := 107) C.1 C.2.1 C.2.2.2.1 (C.2.2.2.2 _ lc_X9_268) dX9_isWord_107 ?_
                refine lv_lmul (pc := 110) C.1 C.2.1 dX9_isWord_110 ?_
                refine lv_iload (pc := 111) C.1 C.2.1 dX9_isWord_111 (lv_at hl 2 rfl) ?_
                refine lv_i2l (pc := 113) C.1 C.2.1 dX9_isWord_113 rfl ?_
                refine lv_ladd (pc := 114) C.1 C.2.1 dX9_isWord_114 ?_
                refine lv_ldc2 (pc := 115) C.1 C.2.1 C.2.2.2.1 (C.2.2.2.2 _ lc_X9_270) dX9_isWord_115 ?_
                refine lv_lsub (pc := 118) C.1 C.2.1 dX9_isWord_118 ?_
                exact hw _ _ _ h (lv_sub hl [1] rfl)
              · have hw := hw.2 c12
                refine lv_lload (pc := 100) C.1 C.2.1 dX9_isWord_100 (lv_at hl 0 rfl) ?_
                refine lv_goto (tgt := 119) (pc := 102) C.1 C.2.1 dX9_isWord_102 (by decide) ?_
                exact hw _ _ _ h (lv_sub hl [1] rfl))
          refine lv_if_ne (tgt := 79) (pc := 71) C.1 C.2.1 dX9_isWord_71 (by decide) (fun c13 => ?_) (fun c13 => ?_)
          · have hw := hw.1 c13
            refine lv_lload (pc := 79) C.1 C.2.1 dX9_isWord_79 (lv_at hl 0 rfl) ?_
            refine lv_ldc2 (pc := 81) C.1 C.2.1 C.2.2.2.1 (C.2.2.2.2 _ lc_X9_268) dX9_isWord_81 ?_
            refine lv_lmul (pc := 84) C.1 C.2.1 dX9_isWord_84 ?_
            refine lv_iload (pc := 85) C.1 C.2.1 dX9_isWord_85 (lv_at hl 2 rfl) ?_
            refine lv_i2l (pc := 87) C.1 C.2.1 dX9_isWord_87 rfl ?_
            refine lv_ladd (pc := 88) C.1 C.2.1 dX9_isWord_88 ?_
            refine lv_ldc2 (pc := 89) C.1 C.2.1 C.2.2.2.1 (C.2.2.2.2 _ lc_X9_270) dX9_isWord_89 ?_
            refine lv_lsub (pc := 92) C.1 C.2.1 dX9_isWord_92 ?_
            exact hw _ _ _ h (lv_sub hl [1, 3] rfl)
          · have hw := hw.2 c13
            refine lv_lload (pc := 74) C.1 C.2.1 dX9_isWord_74 (lv_at hl 0 rfl) ?_
            refine lv_goto (tgt := 93) (pc := 76) C.1 C.2.1 dX9_isWord_76 (by decide) ?_
            exact hw _ _ _ h (lv_sub hl [1, 3] rfl))
      refine lv_if_ne (tgt := 53) (pc := 45) C.1 C.2.1 dX9_isWord_45 (by decide) (fun c14 => ?_) (fun c14 => ?_)
      · have hw := hw.1 c14
        refine lv_lload (pc := 53) C.1 C.2.1 dX9_isWord_53 (lv_at hl 0 rfl) ?_
        refine lv_ldc2 (pc := 55) C.1 C.2.1 C.2.2.2.1 (C.2.2.2.2 _ lc_X9_268) dX9_isWord_55 ?_
        refine lv_lmul (pc := 58) C.1 C.2.1 dX9_isWord_58 ?_
        refine lv_iload (pc := 59) C.1 C.2.1 dX9_isWord_59 (lv_at hl 2 rfl) ?_
        refine lv_i2l (pc := 61) C.1 C.2.1 dX9_isWord_61 rfl ?_
        refine lv_ladd (pc := 62) C.1 C.2.1 dX9_isWord_62 ?_
        refine lv_ldc2 (pc := 63) C.1 C.2.1 C.2.2.2.1 (C.2.2.2.2 _ lc_X9_270) dX9_isWord_63 ?_
        refine lv_lsub (pc := 66) C.1 C.2.1 dX9_isWord_66 ?_
        exact hw _ _ _ h (lv_sub hl [1, 3, 4] rfl)
      · have hw := hw.2 c14
        refine lv_lload (pc := 48) C.1 C.2.1 dX9_isWord_48 (lv_at hl 0 rfl) ?_
        refine lv_goto (tgt := 67) (pc := 50) C.1 C.2.1 dX9_isWord_50 (by decide) ?_
        exact hw _ _ _ h (lv_sub hl [1, 3, 4] rfl))
  refine lv_if_ne (tgt := 28) (pc := 20) C.1 C.2.1 dX9_isWord_20 (by decide) (fun c15 => ?_) (fun c15 => ?_)
  · have hw := hw.1 c15
    refine lv_lload (pc := 28) C.1 C.2.1 dX9_isWord_28 (lv_at hl 0 rfl) ?_
    refine lv_ldc2 (pc := 30) C.1 C.2.1 C.2.2.2.1 (C.2.2.2.2 _ lc_X9_268) dX9_isWord_30 ?_
    refine lv_lmul (pc := 33) C.1 C.2.1 dX9_isWord_33 ?_
    refine lv_iload_n (pc := 34) C.1 C.2.1 dX9_isWord_34 rfl (lv_at hl 4 rfl) ?_
    refine lv_i2l (pc := 35) C.1 C.2.1 dX9_isWord_35 rfl ?_
    refine lv_ladd (pc := 36) C.1 C.2.1 dX9_isWord_36 ?_
    refine lv_ldc2 (pc := 37) C.1 C.2.1 C.2.2.2.1 (C.2.2.2.2 _ lc_X9_270) dX9_isWord_37 ?_
    refine lv_lsub (pc := 40) C.1 C.2.1 dX9_isWord_40 ?_
    exact hw _ _ _ h (lv_sub hl [1, 5, 6, 7] rfl)
  · have hw := hw.2 c15
    refine lv_lload (pc := 23) C.1 C.2.1 dX9_isWord_23 (lv_at hl 0 rfl) ?_
    refine lv_goto (tgt := 41) (pc := 25) C.1 C.2.1 dX9_isWord_25 (by decide) ?_
    exact hw _ _ _ h (lv_sub hl [1, 5, 6, 7] rfl)

def wp_X9_number (b1 : Int64) (z : St) (P : Int32 → St → Prop) : Prop :=
  (∀ x1 : Int32, x1 = Int64.toInt32 (gJ z 40) → (∀ K3 : Int32 → Prop, (∀ (s2 : Int32), (wp_X9_must s2 z (fun z4 => P x1 z4)) → K3 s2) → (∀ K6 : Prop, (K3 ((0 : Int32)) → K6) → (((¬ (gI z 39) = ((2 : Int32))) → K6) ∧ ((gI z 39) = ((2 : Int32)) → (((0 < (lg_cmp (gJ z 40) b1)) → K6) ∧ (¬ (0 < (lg_cmp (gJ z 40) b1)) → K3 ((1 : Int32)))))))))
set_option maxHeartbeats 4000000 in
set_option maxRecDepth 100000 in
theorem m_X9_number (l : Launch) (D : va_G) (t : Ty3) (a : Nat → Nat) (b1 : Int64) (z : St) (P : Int32 → St → Prop) (hw : wp_X9_number b1 z P) : CtI l D t yX9_number cX9_number 4 (some .int) 3 (wM t a) (wM t a z) [.ref (a 0), .long b1] P := by
  refine ctI_of (by decide) (Nat.le_of_ble_eq_true rfl) ?_
  intro p e s m args below meth c A ls C hr hlk h hl
  have hl : lv_has ls 4 [(0, .ref (a 0)), (1, .long b1)] := hl
  unfold wp_X9_number at hw
  refine lv_aload_n (pc := 0) C.1 C.2.1 dX9_number_0 rfl (lv_at hl 0 rfl) ?_
  refine GM_X9_255_0 (pc := 1) C h dX9_number_1 ?_
  refine lv_l2i (pc := 4) C.1 C.2.1 dX9_number_4 rfl ?_
  refine lv_topi (fun x1 ex1 => ?_)
  have hw := hw x1 ex1
  refine lv_istore_n (lv' := [(3, .int x1), (0, .ref (a 0)), (1, .long b1)]) (pc := 5) C.1 C.2.1 dX9_number_5 rfl hl (by decide) rfl (fun ls hl => ?_)
  refine lv_aload_n (pc := 6) C.1 C.2.1 dX9_number_6 rfl (lv_at hl 1 rfl) ?_
  refine lv_aload_n (pc := 7) C.1 C.2.1 dX9_number_7 rfl (lv_at hl 1 rfl) ?_
  refine GM_X9_265_0 (pc := 8) C h dX9_number_8 ?_
  refine lv_iconst (v := 2) (pc := 11) C.1 C.2.1 dX9_number_11 (by decide) ?_
  have hw := hw (fun (s2 : Int32) => ∀ (H : Heap) (locs : List Loc) (ls : Array Slot), wd D t A s (wM t a z) H locs → lv_has ls 4 [(3, .int x1)] → W p l e (rmd 3) s m args below meth c H locs 0 0 (QI D t A (wM t a) P below args s) (F0 m 29 ls [.int s2, .ref (a 0)])) (by
      intro s2 hw H locs ls h hl
      refine cl_vv (pc := 29) (As := [.int s2]) (rest := []) C h (m_X9_must l D t a s2 z _ hw) mw_X9_must lm_X9_280 md_X9_must rcM_0 ⟨by decide, by decide⟩ ⟨Nat.zero_le _, Nat.zero_le _⟩ hl.1 rfl (Nat.le_of_ble_eq_true rfl) dX9_number_29 (fun z4 H locs hw h => ?_)
      refine lv_iload_n (pc := 32) C.1 C.2.1 dX9_number_32 rfl (lv_at hl 0 rfl) ?_
      exact rt_i (pc := 33) C hr hlk h hw dX9_number_33)
  have hw := hw (∀ (H : Heap) (locs : List Loc) (ls : Array Slot), wd D t A s (wM t a z) H locs → lv_has ls 4 [(3, .int x1)] → W p l e (rmd 3) s m args below meth c H locs 0 0 (QI D t A (wM t a) P below args s) (F0 m 28 ls [.ref (a 0)])) (by
      intro hw H locs ls h hl
      refine lv_iconst (v := 0) (pc := 28) C.1 C.2.1 dX9_number_28 (by decide) ?_
      exact hw _ _ _ h (lv_sub hl [0] rfl))
  refine lv_icmp_ne (tgt := 28) (pc := 12) C.1 C.2.1 dX9_number_12 (by decide) (fun c7 => ?_) (fun c7 => ?_)
  · have hw := hw.1 c7
    exact hw _ _ _ h (lv_sub hl [0] rfl)
  · have hw := hw.2 c7
    refine lv_aload_n (pc := 15) C.1 C.2.1 dX9_number_15 rfl (lv_at hl 1 rfl) ?_
    refine GM_X9_255_0 (pc := 16) C h dX9_number_16 ?_
    refine lv_lload_n (pc := 19) C.1 C.2.1 dX9_number_19 rfl (lv_at hl 2 rfl) ?_
    refine W.lcmp (pc := 20) C.1 C.2.1 dX9_number_20 ?_
    refine lv_if_gt (tgt := 28) (pc := 21) C.1 C.2.1 dX9_number_21 (by decide) (fun c8 => ?_) (fun c8 => ?_)
    · have hw := hw.1 c8
      exact hw _ _ _ h (lv_sub hl [0] rfl)
    · have hw := hw.2 c8
      refine lv_iconst (v := 1) (pc := 24) C.1 C.2.1 dX9_number_24 (by decide) ?_
      refine lv_goto (tgt := 29) (pc := 25) C.1 C.2.1 dX9_number_25 (by decide) ?_
      exact hw _ _ _ h (lv_sub hl [0] rfl)

def wp_X9_readRule  (z : St) (P : St → Prop) : Prop :=
  (wp_X9_isWord ((113 : Int32)) ((117 : Int32)) ((105 : Int32)) ((101 : Int32)) ((116 : Int32)) ((0 : Int32)) z (fun r2 => (∀ K4 : Int32 → Prop, (∀ (s3 : Int32), (∀ K6 : Int32 → Prop, (∀ (s5 : Int32), (wp_X9_must s5 z (fun z7 => (∀ K10 : Int64 → Prop, (∀ (s9 : Int64), (wp_X9_number s9 z7 (fun r12 z11 => (∀ K15 : Int32 → Int32 → St → Prop, (∀ (v13 : Int32) (v14 : Int32) (z16 : St), ((((gI z16 42) = 0) → (vp_in (((4 : Int32)) * (gI z16 34)) 80 ∧ (∀ z18 : St, z18 = wR z16 24 (upd (gF z16 24) (((4 : Int32)) * (gI z16 34)).toNatClampNeg s3) → (vp_in ((((4 : Int32)) * (gI z18 34)) + ((1 : Int32))) 80 ∧ (∀ z19 : St, z19 = wR z18 24 (upd (gF z18 24) ((((4 : Int32)) * (gI z18 34)) + ((1 : Int32))).toNatClampNeg r12) → (vp_in ((((4 : Int32)) * (gI z19 34)) + ((2 : Int32))) 80 ∧ (∀ z20 : St, z20 = wR z19 24 (upd (gF z19 24) ((((4 : Int32)) * (gI z19 34)) + ((2 : Int32))).toNatClampNeg v13) → (vp_in ((((4 : Int32)) * (gI z20 34)) + ((3 : Int32))) 80 ∧ (∀ z21 : St, z21 = wR z20 24 (upd (gF z20 24) ((((4 : Int32)) * (gI z20 34)) + ((3 : Int32))).toNatClampNeg v14) → (∀ z22 : St, z22 = wI z21 34 ((gI z21 34) + ((1 : Int32))) → P z22)))))))))) ∧ (¬ ((gI z16 42) = 0) → P z16)) → K15 v13 v14 z16) → (((¬ s3 = 0) → (((¬ s3 = ((2 : Int32))) → K15 ((0 : Int32)) ((0 : Int32)) z11) ∧ (s3 = ((2 : Int32)) → (wp_X9_isWord ((98 : Int32)) ((101 : Int32)) ((102 : Int32)) ((111 : Int32)) ((114 : Int32)) ((101 : Int32)) z11 (fun r26 => (wp_X9_must r26 z11 (fun z27 => (∀ x29 : Int32, x29 = Int64.toInt32 (gJ z27 40) → (∀ K31 : Int32 → Prop, (∀ (s30 : Int32), (wp_X9_must s30 z27 (fun z32 => K15 x29 ((0 : Int32)) z32)) → K31 s30) → (∀ K34 : Prop, (K31 ((0 : Int32)) → K34) → (((¬ (gI z27 39) = ((2 : Int32))) → K34) ∧ ((gI z27 39) = ((2 : Int32)) → (((0 < (lg_cmp (gJ z27 40) ((15 : Int64)))) → K34) ∧ (¬ (0 < (lg_cmp (gJ z27 40) ((15 : Int64)))) → ((((lg_cmp (gJ z27 40) (Int32.toInt64 r12)) = 0) → K34) ∧ (¬ ((lg_cmp (gJ z27 40) (Int32.toInt64 r12)) = 0) → K31 ((1 : Int32)))))))))))))))))) ∧ (s3 = 0 → (wp_X9_isWord ((102 : Int32)) ((114 : Int32)) ((111 : Int32)) ((109 : Int32)) ((0 : Int32)) ((0 : Int32)) z11 (fun r39 => (wp_X9_must r39 z11 (fun z40 => (wp_X9_number ((23 : Int64)) z40 (fun r43 z42 => (wp_X9_isWord ((116 : Int32)) ((111 : Int32)) ((0 : Int32)) ((0 : Int32)) ((0 : Int32)) ((0 : Int32)) z42 (fun r45 => (wp_X9_must r45 z42 (fun z46 => (wp_X9_number ((23 : Int64)) z46 (fun r49 z48 => K15 r43 r49 z48))))))))))))))))) → K10 s9) → (((¬ s3 = 0) → (((¬ s3 = ((1 : Int32))) → K10 ((15 : Int64))) ∧ (s3 = ((1 : Int32)) → K10 ((10000 : Int64))))) ∧ (s3 = 0 → K10 ((3 : Int64))))))) → K6 s5) → (∀ K52 : Prop, (K6 ((0 : Int32)) → K52) → (((s3 < 0) → K52) ∧ (¬ (s3 < 0) → (((((20 : Int32)) ≤ (gI z 34)) → K52) ∧ (¬ (((20 : Int32)) ≤ (gI z 34)) → K6 ((1 : Int32)))))))) → K4 s3) → (((r2 = 0) → (wp_X9_isWord ((100 : Int32)) ((101 : Int32)) ((97 : Int32)) ((114 : Int32)) ((0 : Int32)) ((0 : Int32)) z (fun r57 => (((r57 = 0) → (wp_X9_isWord ((106 : Int32)) ((111 : Int32)) ((98 : Int32)) ((0 : Int32)) ((0 : Int32)) ((0 : Int32)) z (fun r60 => (((r60 = 0) → K4 ((-1 : Int32))) ∧ (¬ (r60 = 0) → K4 ((2 : Int32))))))) ∧ (¬ (r57 = 0) → K4 ((1 : Int32))))))) ∧ (¬ (r2 = 0) → K4 ((0 : Int32)))))))
set_option maxHeartbeats 4000000 in
set_option maxRecDepth 100000 in
theorem m_X9_readRule (l : Launch) (D : va_G) (t : Ty3) (a : Nat → Nat)  (z : St) (P : St → Prop) (hw : wp_X9_readRule z P) : CtV l D t yX9_readRule cX9_readRule 5 none 4 (wM t a) (wM t a z) [.ref (a 0)] P := by
  refine ctV_of (by decide) (Nat.le_of_ble_eq_true rfl) ?_
  intro p e s m args below meth c A ls C hr hlk h hl
  have hl : lv_has ls 5 [(0, .ref (a 0))] := hl
  unfold wp_X9_readRule at hw
  refine lv_aload_n (pc := 0) C.1 C.2.1 dX9_readRule_0 rfl (lv_at hl 0 rfl) ?_
  refine lv_bipush (v := 113) (pc := 1) C.1 C.2.1 dX9_readRule_1 (by decide) ?_
  refine lv_bipush (v := 117) (pc := 3) C.1 C.2.1 dX9_readRule_3 (by decide) ?_
  refine lv_bipush (v := 105) (pc := 5) C.1 C.2.1 dX9_readRule_5 (by decide) ?_
  refine lv_bipush (v := 101) (pc := 7) C.1 C.2.1 dX9_readRule_7 (by decide) ?_
  refine lv_bipush (v := 116) (pc := 9) C.1 C.2.1 dX9_readRule_9 (by decide) ?_
  refine lv_iconst (v := 0) (pc := 11) C.1 C.2.1 dX9_readRule_11 (by decide) ?_
  refine cl_vi (pc := 12) (As := [.int ((113 : Int32)), .int ((117 : Int32)), .int ((105 : Int32)), .int ((101 : Int32)), .int ((116 : Int32)), .int ((0 : Int32))]) (rest := []) C h (m_X9_isWord l D t a ((113 : Int32)) ((117 : Int32)) ((105 : Int32)) ((101 : Int32)) ((116 : Int32)) ((0 : Int32)) z _ hw) mw_X9_isWord lm_X9_284 md_X9_isWord rcM_0 ⟨by decide, by decide⟩ ⟨Nat.zero_le _, Nat.zero_le _⟩ hl.1 rfl (Nat.le_of_ble_eq_true rfl) dX9_readRule_12 (fun r2 z1 H locs hw h => ?_)
  rw [hw.1] at h
  have hw := hw.2
  have hw := hw (fun (s3 : Int32) => ∀ (H : Heap) (locs : List Loc) (ls : Array Slot), wd D t A s (wM t a z) H locs → lv_has ls 5 [(0, .ref (a 0))] → W p l e (rmd 4) s m args below meth c H locs 0 0 (QV D t A (wM t a) P below args s) (F0 m 64 ls [.int s3])) (by
      intro s3 hw H locs ls h hl
      refine lv_istore_n (lv' := [(1, .int s3), (0, .ref (a 0))]) (pc := 64) C.1 C.2.1 dX9_readRule_64 rfl hl (by decide) rfl (fun ls hl => ?_)
      refine lv_aload_n (pc := 65) C.1 C.2.1 dX9_readRule_65 rfl (lv_at hl 1 rfl) ?_
      refine lv_iload_n (pc := 66) C.1 C.2.1 dX9_readRule_66 rfl (lv_at hl 0 rfl) ?_
      have hw := hw (fun (s5 : Int32) => ∀ (H : Heap) (locs : List Loc) (ls : Array Slot), wd D t A s (wM t a z) H locs → lv_has ls 5 [(0, .ref (a 0)), (1, .int s3)] → W p l e (rmd 4) s m args below meth c H locs 0 0 (QV D t A (wM t a) P below args s) (F0 m 84 ls [.int s5, .ref (a 0)])) (by
          intro s5 hw H locs ls h hl
          refine cl_vv (pc := 84) (As := [.int s5]) (rest := []) C h (m_X9_must l D t a s5 z _ hw) mw_X9_must lm_X9_280 md_X9_must rcM_0 ⟨by decide, by decide⟩ ⟨Nat.zero_le _, Nat.zero_le _⟩ hl.1 rfl (Nat.le_of_ble_eq_true rfl) dX9_readRule_84 (fun z7 H locs hw h => ?_)
          refine lv_aload_n (pc := 87) C.1 C.2.1 dX9_readRule_87 rfl (lv_at hl 0 rfl) ?_
          refine lv_iload_n (pc := 88) C.1 C.2.1 dX9_readRule_88 rfl (lv_at hl 1 rfl) ?_
          have hw := hw (fun (s9 : Int64) => ∀ (H : Heap) (locs : List Loc) (ls : Array Slot), wd D t A s (wM t a z7) H locs → lv_has ls 5 [(0, .ref (a 0)), (1, .int s3)] → W p l e (rmd 4) s m args below meth c H locs 0 0 (QV D t A (wM t a) P below args s) (F0 m 112 ls [.long s9, .ref (a 0)])) (by
              intro s9 hw H locs ls h hl
              refine cl_vi (pc := 112) (As := [.long s9]) (rest := []) C h (m_X9_number l D t a s9 z7 _ hw) mw_X9_number lm_X9_295 md_X9_number rcM_0 ⟨by decide, by decide⟩ ⟨Nat.zero_le _, Nat.zero_le _⟩ hl.1 rfl (Nat.le_of_ble_eq_true rfl) dX9_readRule_112 (fun r12 z11 H locs hw h => ?_)
              refine lv_istore_n (lv' := [(2, .int r12), (0, .ref (a 0)), (1, .int s3)]) (pc := 115) C.1 C.2.1 dX9_readRule_115 rfl hl (by decide) rfl (fun ls hl => ?_)
              refine lv_iconst (v := 0) (pc := 116) C.1 C.2.1 dX9_readRule_116 (by decide) ?_
              refine lv_istore_n (lv' := [(3, .int ((0 : Int32))), (2, .int r12), (0, .ref (a 0)), (1, .int s3)]) (pc := 117) C.1 C.2.1 dX9_readRule_117 rfl hl (by decide) rfl (fun ls hl => ?_)
              refine lv_iconst (v := 0) (pc := 118) C.1 C.2.1 dX9_readRule_118 (by decide) ?_
              refine lv_istore (lv' := [(4, .int ((0 : Int32))), (3, .int ((0 : Int32))), (2, .int r12), (0, .ref (a 0)), (1, .int s3)]) (pc := 119) C.1 C.2.1 dX9_readRule_119 hl (by decide) rfl (fun ls hl => ?_)
              refine lv_iload_n (pc := 121) C.1 C.2.1 dX9_readRule_121 rfl (lv_at hl 4 rfl) ?_
              have hw := hw (fun (v13 : Int32) (v14 : Int32) (z16 : St) => ∀ (H : Heap) (locs : List Loc) (ls : Array Slot), wd D t A s (wM t a z16) H locs → lv_has ls 5 [(0, .ref (a 0)), (1, .int s3), (2, .int r12), (3, .int v13), (4, .int v14)] → W p l e (rmd 4) s m args below meth c H locs 0 0 (QV D t A (wM t a) P below args s) (F0 m 248 ls [])) (by
                  intro v13 v14 z16 hw H locs ls h hl
                  refine lv_aload_n (pc := 248) C.1 C.2.1 dX9_readRule_248 rfl (lv_at hl 0 rfl) ?_
                  refine GM_X9_274_0 (pc := 249) C h dX9_readRule_249 ?_
                  refine lv_if_eq (tgt := 256) (pc := 252) C.1 C.2.1 dX9_readRule_252 (by decide) (fun c17 => ?_) (fun c17 => ?_)
                  · have hw := hw.1 c17
                    refine lv_aload_n (pc := 256) C.1 C.2.1 dX9_readRule_256 rfl (lv_at hl 0 rfl) ?_
                    refine GM_X9_88_0 (pc := 257) C h dX9_readRule_257 ?_
                    refine lv_iconst (v := 4) (pc := 260) C.1 C.2.1 dX9_readRule_260 (by decide) ?_
                    refine lv_aload_n (pc := 261) C.1 C.2.1 dX9_readRule_261 rfl (lv_at hl 0 rfl) ?_
                    refine GM_X9_288_0 (pc := 262) C h dX9_readRule_262 ?_
                    refine lv_imul (pc := 265) C.1 C.2.1 dX9_readRule_265 ?_
                    refine lv_iload_n (pc := 266) C.1 C.2.1 dX9_readRule_266 rfl (lv_at hl 1 rfl) ?_
                    refine stM_24 (pc := 267) C h hw.1 dX9_readRule_267 (fun z18 ez18 H locs h => ?_)
                    have hw := hw.2 z18 ez18
                    refine lv_aload_n (pc := 268) C.1 C.2.1 dX9_readRule_268 rfl (lv_at hl 0 rfl) ?_
                    refine GM_X9_88_0 (pc := 269) C h dX9_readRule_269 ?_
                    refine lv_iconst (v := 4) (pc := 272) C.1 C.2.1 dX9_readRule_272 (by decide) ?_
                    refine lv_aload_n (pc := 273) C.1 C.2.1 dX9_readRule_273 rfl (lv_at hl 0 rfl) ?_
                    refine GM_X9_288_0 (pc := 274) C h dX9_readRule_274 ?_
                    refine lv_imul (pc := 277) C.1 C.2.1 dX9_readRule_277 ?_
                    refine lv_iconst (v := 1) (pc := 278) C.1 C.2.1 dX9_readRule_278 (by decide) ?_
                    refine lv_iadd (pc := 279) C.1 C.2.1 dX9_readRule_279 ?_
                    refine lv_iload_n (pc := 280) C.1 C.2.1 dX9_readRule_280 rfl (lv_at hl 2 rfl) ?_
                    refine stM_24 (pc := 281) C h hw.1 dX9_readRule_281 (fun z19 ez19 H locs h => ?_)
                    have hw := hw.2 z19 ez19
                    refine lv_aload_n (pc := 282) C.1 C.2.1 dX9_readRule_282 rfl (lv_at hl 0 rfl) ?_
                    refine GM_X9_88_0 (pc := 283) C h dX9_readRule_283 ?_
                    refine lv_iconst (v := 4) (pc := 286) C.1 C.2.1 dX9_readRule_286 (by decide) ?_
                    refine lv_aload_n (pc := 287) C.1 C.2.1 dX9_readRule_287 rfl (lv_at hl 0 rfl) ?_
                    refine GM_X9_288_0 (pc := 288) C h dX9_readRule_288 ?_
                    refine lv_imul (pc := 291) C.1 C.2.1 dX9_readRule_291 ?_
                    refine lv_iconst (v := 2) (pc := 292) C.1 C.2.1 dX9_readRule_292 (by decide) ?_
                    refine lv_iadd (pc := 293) C.1 C.2.1 dX9_readRule_293 ?_
                    refine lv_iload_n (pc := 294) C.1 C.2.1 dX9_readRule_294 rfl (lv_at hl 3 rfl) ?_
                    refine stM_24 (pc := 295) C h hw.1 dX9_readRule_295 (fun z20 ez20 H locs h => ?_)
                    have hw := hw.2 z20 ez20
                    refine lv_aload_n (pc := 296) C.1 C.2.1 dX9_readRule_296 rfl (lv_at hl 0 rfl) ?_
                    refine GM_X9_88_0 (pc := 297) C h dX9_readRule_297 ?_
                    refine lv_iconst (v := 4) (pc := 300) C.1 C.2.1 dX9_readRule_300 (by decide) ?_
                    refine lv_aload_n (pc := 301) C.1 C.2.1 dX9_readRule_301 rfl (lv_at hl 0 rfl) ?_
                    refine GM_X9_288_0 (pc := 302) C h dX9_readRule_302 ?_
                    refine lv_imul (pc := 305) C.1 C.2.1 dX9_readRule_305 ?_
                    refine lv_iconst (v := 3) (pc := 306) C.1 C.2.1 dX9_readRule_306 (by decide) ?_
                    refine lv_iadd (pc := 307) C.1 C.2.1 dX9_readRule_307 ?_
                    refine lv_iload (pc := 308) C.1 C.2.1 dX9_readRule_308 (lv_at hl 4 rfl) ?_
                    refine stM_24 (pc := 310) C h hw.1 dX9_readRule_310 (fun z21 ez21 H locs h => ?_)
                    have hw := hw.2 z21 ez21
                    refine lv_aload_n (pc := 311) C.1 C.2.1 dX9_readRule_311 rfl (lv_at hl 0 rfl) ?_
                    refine lv_dup (pc := 312) C.1 C.2.1 dX9_readRule_312 rfl ?_
                    refine GM_X9_288_0 (pc := 313) C h dX9_readRule_313 ?_
                    refine lv_iconst (v := 1) (pc := 316) C.1 C.2.1 dX9_readRule_316 (by decide) ?_
                    refine lv_iadd (pc := 317) C.1 C.2.1 dX9_readRule_317 ?_
                    refine PM_X9_288_0 (pc := 318) C h dX9_readRule_318 (fun z22 ez22 H locs h => ?_)
                    have hw := hw z22 ez22
                    exact rt_v (pc := 321) C hr hlk h hw dX9_readRule_321
                  · have hw := hw.2 c17
                    exact rt_v (pc := 255) C hr hlk h hw dX9_readRule_255)
              refine lv_if_ne (tgt := 179) (pc := 122) C.1 C.2.1 dX9_readRule_122 (by decide) (fun c23 => ?_) (fun c23 => ?_)
              · have hw := hw.1 c23
                refine lv_iload_n (pc := 179) C.1 C.2.1 dX9_readRule_179 rfl (lv_at hl 4 rfl) ?_
                refine lv_iconst (v := 2) (pc := 180) C.1 C.2.1 dX9_readRule_180 (by decide) ?_
                refine lv_icmp_ne (tgt := 248) (pc := 181) C.1 C.2.1 dX9_readRule_181 (by decide) (fun c24 => ?_) (fun c24 => ?_)
                · have hw := hw.1 c24
                  exact hw _ _ _ h (lv_sub hl [3, 4, 2, 1, 0] rfl)
                · have hw := hw.2 c24
                  refine lv_aload_n (pc := 184) C.1 C.2.1 dX9_readRule_184 rfl (lv_at hl 3 rfl) ?_
                  refine lv_aload_n (pc := 185) C.1 C.2.1 dX9_readRule_185 rfl (lv_at hl 3 rfl) ?_
                  refine lv_bipush (v := 98) (pc := 186) C.1 C.2.1 dX9_readRule_186 (by decide) ?_
                  refine lv_bipush (v := 101) (pc := 188) C.1 C.2.1 dX9_readRule_188 (by decide) ?_
                  refine lv_bipush (v := 102) (pc := 190) C.1 C.2.1 dX9_readRule_190 (by decide) ?_
                  refine lv_bipush (v := 111) (pc := 192) C.1 C.2.1 dX9_readRule_192 (by decide) ?_
                  refine lv_bipush (v := 114) (pc := 194) C.1 C.2.1 dX9_readRule_194 (by decide) ?_
                  refine lv_bipush (v := 101) (pc := 196) C.1 C.2.1 dX9_readRule_196 (by decide) ?_
                  refine cl_vi (pc := 198) (As := [.int ((98 : Int32)), .int ((101 : Int32)), .int ((102 : Int32)), .int ((111 : Int32)), .int ((114 : Int32)), .int ((101 : Int32))]) (rest := [.ref (a 0)]) C h (m_X9_isWord l D t a ((98 : Int32)) ((101 : Int32)) ((102 : Int32)) ((111 : Int32)) ((114 : Int32)) ((101 : Int32)) z11 _ hw) mw_X9_isWord lm_X9_284 md_X9_isWord rcM_0 ⟨by decide, by decide⟩ ⟨Nat.zero_le _, Nat.zero_le _⟩ hl.1 rfl (Nat.le_of_ble_eq_true rfl) dX9_readRule_198 (fun r26 z25 H locs hw h => ?_)
                  rw [hw.1] at h
                  have hw := hw.2
                  refine cl_vv (pc := 201) (As := [.int r26]) (rest := []) C h (m_X9_must l D t a r26 z11 _ hw) mw_X9_must lm_X9_280 md_X9_must rcM_0 ⟨by decide, by decide⟩ ⟨Nat.zero_le _, Nat.zero_le _⟩ hl.1 rfl (Nat.le_of_ble_eq_true rfl) dX9_readRule_201 (fun z27 H locs hw h => ?_)
                  refine lv_aload_n (pc := 204) C.1 C.2.1 dX9_readRule_204 rfl (lv_at hl 3 rfl) ?_
                  refine GM_X9_255_0 (pc := 205) C h dX9_readRule_205 ?_
                  refine lv_l2i (pc := 208) C.1 C.2.1 dX9_readRule_208 rfl ?_
                  refine lv_topi (fun x29 ex29 => ?_)
                  have hw := hw x29 ex29
                  refine lv_istore_n (lv' := [(3, .int x29), (4, .int ((0 : Int32))), (2, .int r12), (0, .ref (a 0)), (1, .int s3)]) (pc := 209) C.1 C.2.1 dX9_readRule_209 rfl hl (by decide) rfl (fun ls hl => ?_)
                  refine lv_aload_n (pc := 210) C.1 C.2.1 dX9_readRule_210 rfl (lv_at hl 3 rfl) ?_
                  refine lv_aload_n (pc := 211) C.1 C.2.1 dX9_readRule_211 rfl (lv_at hl 3 rfl) ?_
                  refine GM_X9_265_0 (pc := 212) C h dX9_readRule_212 ?_
                  refine lv_iconst (v := 2) (pc := 215) C.1 C.2.1 dX9_readRule_215 (by decide) ?_
                  have hw := hw (fun (s30 : Int32) => ∀ (H : Heap) (locs : List Loc) (ls : Array Slot), wd D t A s (wM t a z27) H locs → lv_has ls 5 [(0, .ref (a 0)), (1, .int s3), (2, .int r12), (3, .int x29), (4, .int ((0 : Int32)))] → W p l e (rmd 4) s m args below meth c H locs 0 0 (QV D t A (wM t a) P below args s) (F0 m 245 ls [.int s30, .ref (a 0)])) (by
                      intro s30 hw H locs ls h hl
                      refine cl_vv (pc := 245) (As := [.int s30]) (rest := []) C h (m_X9_must l D t a s30 z27 _ hw) mw_X9_must lm_X9_280 md_X9_must rcM_0 ⟨by decide, by decide⟩ ⟨Nat.zero_le _, Nat.zero_le _⟩ hl.1 rfl (Nat.le_of_ble_eq_true rfl) dX9_readRule_245 (fun z32 H locs hw h => ?_)
                      exact hw _ _ _ h (lv_sub hl [0, 1, 2, 3, 4] rfl))
                  have hw := hw (∀ (H : Heap) (locs : List Loc) (ls : Array Slot), wd D t A s (wM t a z27) H locs → lv_has ls 5 [(0, .ref (a 0)), (1, .int s3), (2, .int r12), (3, .int x29), (4, .int ((0 : Int32)))] → W p l e (rmd 4) s m args below meth c H locs 0 0 (QV D t A (wM t a) P below args s) (F0 m 244 ls [.ref (a 0)])) (by
                      intro hw H locs ls h hl
                      refine lv_iconst (v := 0) (pc := 244) C.1 C.2.1 dX9_readRule_244 (by decide) ?_
                      exact hw _ _ _ h (lv_sub hl [0, 1, 2, 3, 4] rfl))
                  refine lv_icmp_ne (tgt := 244) (pc := 216) C.1 C.2.1 dX9_readRule_216 (by decide) (fun c35 => ?_) (fun c35 => ?_)
                  · have hw := hw.1 c35
                    exact hw _ _ _ h (lv_sub hl [3, 4, 2, 0, 1] rfl)
                  · have hw := hw.2 c35
                    refine lv_aload_n (pc := 219) C.1 C.2.1 dX9_readRule_219 rfl (lv_at hl 3 rfl) ?_
                    refine GM_X9_255_0 (pc := 220) C h dX9_readRule_220 ?_
                    refine lv_ldc2 (pc := 223) C.1 C.2.1 C.2.2.2.1 (C.2.2.2.2 _ lc_X9_293) dX9_readRule_223 ?_
                    refine W.lcmp (pc := 226) C.1 C.2.1 dX9_readRule_226 ?_
                    refine lv_if_gt (tgt := 244) (pc := 227) C.1 C.2.1 dX9_readRule_227 (by decide) (fun c36 => ?_) (fun c36 => ?_)
                    · have hw := hw.1 c36
                      exact hw _ _ _ h (lv_sub hl [3, 4, 2, 0, 1] rfl)
                    · have hw := hw.2 c36
                      refine lv_aload_n (pc := 230) C.1 C.2.1 dX9_readRule_230 rfl (lv_at hl 3 rfl) ?_
                      refine GM_X9_255_0 (pc := 231) C h dX9_readRule_231 ?_
                      refine lv_iload_n (pc := 234) C.1 C.2.1 dX9_readRule_234 rfl (lv_at hl 2 rfl) ?_
                      refine lv_i2l (pc := 235) C.1 C.2.1 dX9_readRule_235 rfl ?_
                      refine W.lcmp (pc := 236) C.1 C.2.1 dX9_readRule_236 ?_
                      refine lv_if_eq (tgt := 244) (pc := 237) C.1 C.2.1 dX9_readRule_237 (by decide) (fun c37 => ?_) (fun c37 => ?_)
                      · have hw := hw.1 c37
                        exact hw _ _ _ h (lv_sub hl [3, 4, 2, 0, 1] rfl)
                      · have hw := hw.2 c37
                        refine lv_iconst (v := 1) (pc := 240) C.1 C.2.1 dX9_readRule_240 (by decide) ?_
                        refine lv_goto (tgt := 245) (pc := 241) C.1 C.2.1 dX9_readRule_241 (by decide) ?_
                        exact hw _ _ _ h (lv_sub hl [3, 4, 2, 0, 1] rfl)
              · have hw := hw.2 c23
                refine lv_aload_n (pc := 125) C.1 C.2.1 dX9_readRule_125 rfl (lv_at hl 3 rfl) ?_
                refine lv_aload_n (pc := 126) C.1 C.2.1 dX9_readRule_126 rfl (lv_at hl 3 rfl) ?_
                refine lv_bipush (v := 102) (pc := 127) C.1 C.2.1 dX9_readRule_127 (by decide) ?_
                refine lv_bipush (v := 114) (pc := 129) C.1 C.2.1 dX9_readRule_129 (by decide) ?_
                refine lv_bipush (v := 111) (pc := 131) C.1 C.2.1 dX9_readRule_131 (by decide) ?_
                refine lv_bipush (v := 109) (pc := 133) C.1 C.2.1 dX9_readRule_133 (by decide) ?_
                refine lv_iconst (v := 0) (pc := 135) C.1 C.2.1 dX9_readRule_135 (by decide) ?_
                refine lv_iconst (v := 0) (pc := 136) C.1 C.2.1 dX9_readRule_136 (by decide) ?_
                refine cl_vi (pc := 137) (As := [.int ((102 : Int32)), .int ((114 : Int32)), .int ((111 : Int32)), .int ((109 : Int32)), .int ((0 : Int32)), .int ((0 : Int32))]) (rest := [.ref (a 0)]) C h (m_X9_isWord l D t a ((102 : Int32)) ((114 : Int32)) ((111 : Int32)) ((109 : Int32)) ((0 : Int32)) ((0 : Int32)) z11 _ hw) mw_X9_isWord lm_X9_284 md_X9_isWord rcM_0 ⟨by decide, by decide⟩ ⟨Nat.zero_le _, Nat.zero_le _⟩ hl.1 rfl (Nat.le_of_ble_eq_true rfl) dX9_readRule_137 (fun r39 z38 H locs hw h => ?_)
                rw [hw.1] at h
                have hw := hw.2
                refine cl_vv (pc := 140) (As := [.int r39]) (rest := []) C h (m_X9_must l D t a r39 z11 _ hw) mw_X9_must lm_X9_280 md_X9_must rcM_0 ⟨by decide, by decide⟩ ⟨Nat.zero_le _, Nat.zero_le _⟩ hl.1 rfl (Nat.le_of_ble_eq_true rfl) dX9_readRule_140 (fun z40 H locs hw h => ?_)
                refine lv_aload_n (pc := 143) C.1 C.2.1 dX9_readRule_143 rfl (lv_at hl 3 rfl) ?_
                refine lv_ldc2 (pc := 144) C.1 C.2.1 C.2.2.2.1 (C.2.2.2.2 _ lc_X9_182) dX9_readRule_144 ?_
                refine cl_vi (pc := 147) (As := [.long ((23 : Int64))]) (rest := []) C h (m_X9_number l D t a ((23 : Int64)) z40 _ hw) mw_X9_number lm_X9_295 md_X9_number rcM_0 ⟨by decide, by decide⟩ ⟨Nat.zero_le _, Nat.zero_le _⟩ hl.1 rfl (Nat.le_of_ble_eq_true rfl) dX9_readRule_147 (fun r43 z42 H locs hw h => ?_)
                refine lv_istore_n (lv' := [(3, .int r43), (4, .int ((0 : Int32))), (2, .int r12), (0, .ref (a 0)), (1, .int s3)]) (pc := 150) C.1 C.2.1 dX9_readRule_150 rfl hl (by decide) rfl (fun ls hl => ?_)
                refine lv_aload_n (pc := 151) C.1 C.2.1 dX9_readRule_151 rfl (lv_at hl 3 rfl) ?_
                refine lv_aload_n (pc := 152) C.1 C.2.1 dX9_readRule_152 rfl (lv_at hl 3 rfl) ?_
                refine lv_bipush (v := 116) (pc := 153) C.1 C.2.1 dX9_readRule_153 (by decide) ?_
                refine lv_bipush (v := 111) (pc := 155) C.1 C.2.1 dX9_readRule_155 (by decide) ?_
                refine lv_iconst (v := 0) (pc := 157) C.1 C.2.1 dX9_readRule_157 (by decide) ?_
                refine lv_iconst (v := 0) (pc := 158) C.1 C.2.1 dX9_readRule_158 (by decide) ?_
                refine lv_iconst (v := 0) (pc := 159) C.1 C.2.1 dX9_readRule_159 (by decide) ?_
                refine lv_iconst (v := 0) (pc := 160) C.1 C.2.1 dX9_readRule_160 (by decide) ?_
                refine cl_vi (pc := 161) (As := [.int ((116 : Int32)), .int ((111 : Int32)), .int ((0 : Int32)), .int ((0 : Int32)), .int ((0 : Int32)), .int ((0 : Int32))]) (rest := [.ref (a 0)]) C h (m_X9_isWord l D t a ((116 : Int32)) ((111 : Int32)) ((0 : Int32)) ((0 : Int32)) ((0 : Int32)) ((0 : Int32)) z42 _ hw) mw_X9_isWord lm_X9_284 md_X9_isWord rcM_0 ⟨by decide, by decide⟩ ⟨Nat.zero_le _, Nat.zero_le _⟩ hl.1 rfl (Nat.le_of_ble_eq_true rfl) dX9_readRule_161 (fun r45 z44 H locs hw h => ?_)
                rw [hw.1] at h
                have hw := hw.2
                refine cl_vv (pc := 164) (As := [.int r45]) (rest := []) C h (m_X9_must l D t a r45 z42 _ hw) mw_X9_must lm_X9_280 md_X9_must rcM_0 ⟨by decide, by decide⟩ ⟨Nat.zero_le _, Nat.zero_le _⟩ hl.1 rfl (Nat.le_of_ble_eq_true rfl) dX9_readRule_164 (fun z46 H locs hw h => ?_)
                refine lv_aload_n (pc := 167) C.1 C.2.1 dX9_readRule_167 rfl (lv_at hl 3 rfl) ?_
                refine lv_ldc2 (pc := 168) C.1 C.2.1 C.2.2.2.1 (C.2.2.2.2 _ lc_X9_182) dX9_readRule_168 ?_
                refine cl_vi (pc := 171) (As := [.long ((23 : Int64))]) (rest := []) C h (m_X9_number l D t a ((23 : Int64)) z46 _ hw) mw_X9_number lm_X9_295 md_X9_number rcM_0 ⟨by decide, by decide⟩ ⟨Nat.zero_le _, Nat.zero_le _⟩ hl.1 rfl (Nat.le_of_ble_eq_true rfl) dX9_readRule_171 (fun r49 z48 H locs hw h => ?_)
                refine lv_istore (lv' := [(4, .int r49), (3, .int r43), (2, .int r12), (0, .ref (a 0)), (1, .int s3)]) (pc := 174) C.1 C.2.1 dX9_readRule_174 hl (by decide) rfl (fun ls hl => ?_)
                refine lv_goto (tgt := 248) (pc := 176) C.1 C.2.1 dX9_readRule_176 (by decide) ?_
                exact hw _ _ _ h (lv_sub hl [3, 4, 2, 1, 0] rfl))
          refine lv_if_ne (tgt := 98) (pc := 89) C.1 C.2.1 dX9_readRule_89 (by decide) (fun c50 => ?_) (fun c50 => ?_)
          · have hw := hw.1 c50
            refine lv_iload_n (pc := 98) C.1 C.2.1 dX9_readRule_98 rfl (lv_at hl 1 rfl) ?_
            refine lv_iconst (v := 1) (pc := 99) C.1 C.2.1 dX9_readRule_99 (by decide) ?_
            refine lv_icmp_ne (tgt := 109) (pc := 100) C.1 C.2.1 dX9_readRule_100 (by decide) (fun c51 => ?_) (fun c51 => ?_)
            · have hw := hw.1 c51
              refine lv_ldc2 (pc := 109) C.1 C.2.1 C.2.2.2.1 (C.2.2.2.2 _ lc_X9_293) dX9_readRule_109 ?_
              exact hw _ _ _ h (lv_sub hl [0, 1] rfl)
            · have hw := hw.2 c51
              refine lv_ldc2 (pc := 103) C.1 C.2.1 C.2.2.2.1 (C.2.2.2.2 _ lc_X9_157) dX9_readRule_103 ?_
              refine lv_goto (tgt := 112) (pc := 106) C.1 C.2.1 dX9_readRule_106 (by decide) ?_
              exact hw _ _ _ h (lv_sub hl [0, 1] rfl)
          · have hw := hw.2 c50
            refine lv_ldc2 (pc := 92) C.1 C.2.1 C.2.2.2.1 (C.2.2.2.2 _ lc_X9_291) dX9_readRule_92 ?_
            refine lv_goto (tgt := 112) (pc := 95) C.1 C.2.1 dX9_readRule_95 (by decide) ?_
            exact hw _ _ _ h (lv_sub hl [0, 1] rfl))
      have hw := hw (∀ (H : Heap) (locs : List Loc) (ls : Array Slot), wd D t A s (wM t a z) H locs → lv_has ls 5 [(0, .ref (a 0)), (1, .int s3)] → W p l e (rmd 4) s m args below meth c H locs 0 0 (QV D t A (wM t a) P below args s) (F0 m 83 ls [.ref (a 0)])) (by
          intro hw H locs ls h hl
          refine lv_iconst (v := 0) (pc := 83) C.1 C.2.1 dX9_readRule_83 (by decide) ?_
          exact hw _ _ _ h (lv_sub hl [0, 1] rfl))
      refine lv_if_lt (tgt := 83) (pc := 67) C.1 C.2.1 dX9_readRule_67 (by decide) (fun c53 => ?_) (fun c53 => ?_)
      · have hw := hw.1 c53
        exact hw _ _ _ h (lv_sub hl [1, 0] rfl)
      · have hw := hw.2 c53
        refine lv_aload_n (pc := 70) C.1 C.2.1 dX9_readRule_70 rfl (lv_at hl 1 rfl) ?_
        refine GM_X9_288_0 (pc := 71) C h dX9_readRule_71 ?_
        refine lv_bipush (v := 20) (pc := 74) C.1 C.2.1 dX9_readRule_74 (by decide) ?_
        refine lv_icmp_ge (tgt := 83) (pc := 76) C.1 C.2.1 dX9_readRule_76 (by decide) (fun c54 => ?_) (fun c54 => ?_)
        · have hw := hw.1 c54
          exact hw _ _ _ h (lv_sub hl [1, 0] rfl)
        · have hw := hw.2 c54
          refine lv_iconst (v := 1) (pc := 79) C.1 C.2.1 dX9_readRule_79 (by decide) ?_
          refine lv_goto (tgt := 84) (pc := 80) C.1 C.2.1 dX9_readRule_80 (by decide) ?_
          exact hw _ _ _ h (lv_sub hl [1, 0] rfl))
  refine lv_if_eq (tgt := 22) (pc := 15) C.1 C.2.1 dX9_readRule_15 (by decide) (fun c55 => ?_) (fun c55 => ?_)
  · have hw := hw.1 c55
    refine lv_aload_n (pc := 22) C.1 C.2.1 dX9_readRule_22 rfl (lv_at hl 0 rfl) ?_
    refine lv_bipush (v := 100) (pc := 23) C.1 C.2.1 dX9_readRule_23 (by decide) ?_
    refine lv_bipush (v := 101) (pc := 25) C.1 C.2.1 dX9_readRule_25 (by decide) ?_
    refine lv_bipush (v := 97) (pc := 27) C.1 C.2.1 dX9_readRule_27 (by decide) ?_
    refine lv_bipush (v := 114) (pc := 29) C.1 C.2.1 dX9_readRule_29 (by decide) ?_
    refine lv_iconst (v := 0) (pc := 31) C.1 C.2.1 dX9_readRule_31 (by decide) ?_
    refine lv_iconst (v := 0) (pc := 32) C.1 C.2.1 dX9_readRule_32 (by decide) ?_
    refine cl_vi (pc := 33) (As := [.int ((100 : Int32)), .int ((101 : Int32)), .int ((97 : Int32)), .int ((114 : Int32)), .int ((0 : Int32)), .int ((0 : Int32))]) (rest := []) C h (m_X9_isWord l D t a ((100 : Int32)) ((101 : Int32)) ((97 : Int32)) ((114 : Int32)) ((0 : Int32)) ((0 : Int32)) z _ hw) mw_X9_isWord lm_X9_284 md_X9_isWord rcM_0 ⟨by decide, by decide⟩ ⟨Nat.zero_le _, Nat.zero_le _⟩ hl.1 rfl (Nat.le_of_ble_eq_true rfl) dX9_readRule_33 (fun r57 z56 H locs hw h => ?_)
    rw [hw.1] at h
    have hw := hw.2
    refine lv_if_eq (tgt := 43) (pc := 36) C.1 C.2.1 dX9_readRule_36 (by decide) (fun c58 => ?_) (fun c58 => ?_)
    · have hw := hw.1 c58
      refine lv_aload_n (pc := 43) C.1 C.2.1 dX9_readRule_43 rfl (lv_at hl 0 rfl) ?_
      refine lv_bipush (v := 106) (pc := 44) C.1 C.2.1 dX9_readRule_44 (by decide) ?_
      refine lv_bipush (v := 111) (pc := 46) C.1 C.2.1 dX9_readRule_46 (by decide) ?_
      refine lv_bipush (v := 98) (pc := 48) C.1 C.2.1 dX9_readRule_48 (by decide) ?_
      refine lv_iconst (v := 0) (pc := 50) C.1 C.2.1 dX9_readRule_50 (by decide) ?_
      refine lv_iconst (v := 0) (pc := 51) C.1 C.2.1 dX9_readRule_51 (by decide) ?_
      refine lv_iconst (v := 0) (pc := 52) C.1 C.2.1 dX9_readRule_52 (by decide) ?_
      refine cl_vi (pc := 53) (As := [.int ((106 : Int32)), .int ((111 : Int32)), .int ((98 : Int32)), .int ((0 : Int32)), .int ((0 : Int32)), .int ((0 : Int32))]) (rest := []) C h (m_X9_isWord l D t a ((106 : Int32)) ((111 : Int32)) ((98 : Int32)) ((0 : Int32)) ((0 : Int32)) ((0 : Int32)) z _ hw) mw_X9_isWord lm_X9_284 md_X9_isWord rcM_0 ⟨by decide, by decide⟩ ⟨Nat.zero_le _, Nat.zero_le _⟩ hl.1 rfl (Nat.le_of_ble_eq_true rfl) dX9_readRule_53 (fun r60 z59 H locs hw h => ?_)
      rw [hw.1] at h
      have hw := hw.2
      refine lv_if_eq (tgt := 63) (pc := 56) C.1 C.2.1 dX9_readRule_56 (by decide) (fun c61 => ?_) (fun c61 => ?_)
      · have hw := hw.1 c61
        refine lv_iconst (v := -1) (pc := 63) C.1 C.2.1 dX9_readRule_63 (by decide) ?_
        exact hw _ _ _ h (lv_sub hl [0] rfl)
      · have hw := hw.2 c61
        refine lv_iconst (v := 2) (pc := 59) C.1 C.2.1 dX9_readRule_59 (by decide) ?_
        refine lv_goto (tgt := 64) (pc := 60) C.1 C.2.1 dX9_readRule_60 (by decide) ?_
        exact hw _ _ _ h (lv_sub hl [0] rfl)
    · have hw := hw.2 c58
      refine lv_iconst (v := 1) (pc := 39) C.1 C.2.1 dX9_readRule_39 (by decide) ?_
      refine lv_goto (tgt := 64) (pc := 40) C.1 C.2.1 dX9_readRule_40 (by decide) ?_
      exact hw _ _ _ h (lv_sub hl [0] rfl)
  · have hw := hw.2 c55
    refine lv_iconst (v := 0) (pc := 18) C.1 C.2.1 dX9_readRule_18 (by decide) ?_
    refine lv_goto (tgt := 64) (pc := 19) C.1 C.2.1 dX9_readRule_19 (by decide) ?_
    exact hw _ _ _ h (lv_sub hl [0] rfl)
