def wp_X9_mayBegin (b1 : Int32) (b2 : Int32) (z : St) (P : Int32 → St → Prop) : Prop :=
  (((b2 < (gI z 2)) → P ((0 : Int32)) z) ∧ (¬ (b2 < (gI z 2)) → (vp_in b1 16 ∧ (vp_in b1 16 ∧ (wp_X9_in (Int32.toInt64 b2) (Int32.toInt64 (gF z 7 b1.toNatClampNeg)) (Int32.toInt64 (gF z 8 b1.toNatClampNeg)) z (fun r3 => (((r3 = 0) → P ((0 : Int32)) z) ∧ (¬ (r3 = 0) → (vp_in b1 16 ∧ ((((b2 + (gF z 9 b1.toNatClampNeg)) ≤ ((168 : Int32))) → (∀ K7 : Int32 → St → Prop, (∀ (v6 : Int32) (z8 : St), (vp_in b1 16 ∧ ((((gF z8 9 b1.toNatClampNeg) ≤ v6) → (∀ K12 : Int32 → Int32 → Prop, (∀ (v10 : Int32) (v11 : Int32), ((((gI z8 22) ≤ v11) → ((v10 = 0 ∨ v10 = 1) ∧ P v10 z8)) ∧ (¬ ((gI z8 22) ≤ v11) → (vp_in v11 20 ∧ (∀ K15 : Int32 → Prop, (∀ (v14 : Int32), (∀ x16 : Int32, x16 = v11 + (1) → K12 v14 x16) → K15 v14) → ((((gF z8 14 v11.toNatClampNeg) = ((2 : Int32))) → (vp_in v11 20 ∧ (∀ K19 : Int32 → Prop, (∀ (v18 : Int32), (vp_in v11 20 ∧ (((¬ (gF z8 16 v11.toNatClampNeg) = b1) → K15 v18) ∧ ((gF z8 16 v11.toNatClampNeg) = b1 → (vp_in v11 20 ∧ (wp_X9_isJob (gF z8 15 v11.toNatClampNeg) z8 (fun r22 => (((r22 = 0) → K15 v18) ∧ (¬ (r22 = 0) → (vp_in v11 20 ∧ (vp_in (gF z8 15 v11.toNatClampNeg) 16 ∧ ((((gF z8 11 (gF z8 15 v11.toNatClampNeg).toNatClampNeg) = 0) → K15 v18) ∧ (¬ ((gF z8 11 (gF z8 15 v11.toNatClampNeg).toNatClampNeg) = 0) → (∀ K26 : Int32 → Prop, (∀ (s25 : Int32), K15 s25 → K26 s25) → (∀ K27 : Prop, (K26 ((0 : Int32)) → K27) → (((v18 = 0) → K27) ∧ (¬ (v18 = 0) → (vp_in v11 20 ∧ (vp_in (gF z8 15 v11.toNatClampNeg) 16 ∧ (vp_in v11 20 ∧ (vp_in (gF z8 15 v11.toNatClampNeg) 16 ∧ (((b2 < ((gF z8 12 (gF z8 15 v11.toNatClampNeg).toNatClampNeg) + (gF z8 9 (gF z8 15 v11.toNatClampNeg).toNatClampNeg))) → K27) ∧ (¬ (b2 < ((gF z8 12 (gF z8 15 v11.toNatClampNeg).toNatClampNeg) + (gF z8 9 (gF z8 15 v11.toNatClampNeg).toNatClampNeg))) → K26 ((1 : Int32)))))))))))))))))))))))) → K19 v18) → (((¬ (gF z8 15 v11.toNatClampNeg) = b1) → K19 v10) ∧ ((gF z8 15 v11.toNatClampNeg) = b1 → (vp_in v11 20 ∧ (wp_X9_isJob (gF z8 16 v11.toNatClampNeg) z8 (fun r32 => (((r32 = 0) → K19 v10) ∧ (¬ (r32 = 0) → (vp_in v11 20 ∧ (vp_in (gF z8 16 v11.toNatClampNeg) 16 ∧ ((((gF z8 11 (gF z8 16 v11.toNatClampNeg).toNatClampNeg) = 0) → K19 v10) ∧ (¬ ((gF z8 11 (gF z8 16 v11.toNatClampNeg).toNatClampNeg) = 0) → (∀ K36 : Int32 → Prop, (∀ (s35 : Int32), K19 s35 → K36 s35) → (∀ K37 : Prop, (K36 ((0 : Int32)) → K37) → (((v10 = 0) → K37) ∧ (¬ (v10 = 0) → (vp_in v11 20 ∧ (vp_in (gF z8 16 v11.toNatClampNeg) 16 ∧ (vp_in b1 16 ∧ ((((gF z8 12 (gF z8 16 v11.toNatClampNeg).toNatClampNeg) < (b2 + (gF z8 9 b1.toNatClampNeg))) → K37) ∧ (¬ ((gF z8 12 (gF z8 16 v11.toNatClampNeg).toNatClampNeg) < (b2 + (gF z8 9 b1.toNatClampNeg))) → K36 ((1 : Int32))))))))))))))))))))))))) ∧ (¬ ((gF z8 14 v11.toNatClampNeg) = ((2 : Int32))) → K15 v10)))))) → K12 v10 v11) → K12 ((1 : Int32)) ((0 : Int32)))) ∧ (¬ ((gF z8 9 b1.toNatClampNeg) ≤ v6) → (∀ x40 : Int32, x40 = b2 + v6 → (vp_in b1 16 ∧ (wp_X9_isQuiet (gF z8 6 b1.toNatClampNeg) x40 z8 (fun r42 => (((¬ r42 = 0) → P ((0 : Int32)) z8) ∧ (r42 = 0 → (wp_X9_isDear x40 z8 (fun r45 z44 => (((¬ r45 = 0) → P ((0 : Int32)) z44) ∧ (r45 = 0 → (vp_in b1 16 ∧ (wp_X9_loadOf (gF z44 6 b1.toNatClampNeg) x40 b1 z44 (fun r48 => (vp_in ((((4 : Int32)) * b1) + v6) 64 ∧ (vp_in b1 16 ∧ (vp_in (gF z44 6 b1.toNatClampNeg) 4 ∧ ((((r48 + (gF z44 10 ((((4 : Int32)) * b1) + v6).toNatClampNeg)) ≤ (gF z44 4 (gF z44 6 b1.toNatClampNeg).toNatClampNeg)) → (vp_in ((((4 : Int32)) * b1) + v6) 64 ∧ (∀ x50 : Int32, x50 = gF z44 10 ((((4 : Int32)) * b1) + v6).toNatClampNeg → (∀ K53 : Int32 → Int32 → Prop, (∀ (v51 : Int32) (v52 : Int32), ((((gI z44 8) ≤ v52) → (((v51 ≤ (gI z44 11)) → (∀ x56 : Int32, x56 = v6 + (1) → K7 x56 z44)) ∧ (¬ (v51 ≤ (gI z44 11)) → P ((0 : Int32)) z44))) ∧ (¬ ((gI z44 8) ≤ v52) → (wp_X9_loadOf v52 x40 b1 z44 (fun r58 => (∀ x59 : Int32, x59 = v51 + r58 → (∀ x60 : Int32, x60 = v52 + (1) → K53 x59 x60)))))) → K53 v51 v52) → K53 x50 ((0 : Int32)))))) ∧ (¬ ((r48 + (gF z44 10 ((((4 : Int32)) * b1) + v6).toNatClampNeg)) ≤ (gF z44 4 (gF z44 6 b1.toNatClampNeg).toNatClampNeg)) → P ((0 : Int32)) z44))))))))))))))))))))) → K7 v6 z8) → K7 ((0 : Int32)) z)) ∧ (¬ ((b2 + (gF z 9 b1.toNatClampNeg)) ≤ ((168 : Int32))) → P ((0 : Int32)) z)))))))))))
set_option maxHeartbeats 4000000 in
set_option maxRecDepth 100000 in
theorem m_X9_mayBegin (l : Launch) (D : va_G) (t : Ty3) (a : Nat → Nat) (b1 : Int32) (b2 : Int32) (z : St) (P : Int32 → St → Prop) (hw : wp_X9_mayBegin b1 b2 z P) : CtI l D t yX9_mayBegin cX9_mayBegin 7 (some .boolean) 3 (wM t a) (wM t a z) [.ref (a 0), .int b1, .int b2] P := by
  refine ctI_of (by decide) (Nat.le_of_ble_eq_true rfl) ?_
  intro p e s m args below meth c A ls C hr hlk h hl
  have hl : lv_has ls 7 [(0, .ref (a 0)), (1, .int b1), (2, .int b2)] := hl
  unfold wp_X9_mayBegin at hw
  refine lv_iload_n (pc := 0) C.1 C.2.1 dX9_mayBegin_0 rfl (lv_at hl 2 rfl) ?_
  refine lv_aload_n (pc := 1) C.1 C.2.1 dX9_mayBegin_1 rfl (lv_at hl 0 rfl) ?_
  refine GM_X9_173_0 (pc := 2) C h dX9_mayBegin_2 ?_
  refine lv_icmp_lt (tgt := 44) (pc := 5) C.1 C.2.1 dX9_mayBegin_5 (by decide) (fun c1 => ?_) (fun c1 => ?_)
  · have hw := hw.1 c1
    refine lv_iconst (v := 0) (pc := 44) C.1 C.2.1 dX9_mayBegin_44 (by decide) ?_
    exact rt_z (pc := 45) C hr hlk h (Or.inl rfl) hw dX9_mayBegin_45
  · have hw := hw.2 c1
    refine lv_iload_n (pc := 8) C.1 C.2.1 dX9_mayBegin_8 rfl (lv_at hl 2 rfl) ?_
    refine lv_i2l (pc := 9) C.1 C.2.1 dX9_mayBegin_9 rfl ?_
    refine lv_aload_n (pc := 10) C.1 C.2.1 dX9_mayBegin_10 rfl (lv_at hl 0 rfl) ?_
    refine GM_X9_36_0 (pc := 11) C h dX9_mayBegin_11 ?_
    refine lv_iload_n (pc := 14) C.1 C.2.1 dX9_mayBegin_14 rfl (lv_at hl 1 rfl) ?_
    refine ldM_7 (pc := 15) C h hw.1 dX9_mayBegin_15 ?_
    have hw := hw.2
    refine lv_i2l (pc := 16) C.1 C.2.1 dX9_mayBegin_16 rfl ?_
    refine lv_aload_n (pc := 17) C.1 C.2.1 dX9_mayBegin_17 rfl (lv_at hl 0 rfl) ?_
    refine GM_X9_39_0 (pc := 18) C h dX9_mayBegin_18 ?_
    refine lv_iload_n (pc := 21) C.1 C.2.1 dX9_mayBegin_21 rfl (lv_at hl 1 rfl) ?_
    refine ldM_8 (pc := 22) C h hw.1 dX9_mayBegin_22 ?_
    have hw := hw.2
    refine lv_i2l (pc := 23) C.1 C.2.1 dX9_mayBegin_23 rfl ?_
    refine cl_si (pc := 24) (As := [.long (Int32.toInt64 b2), .long (Int32.toInt64 (gF z 7 b1.toNatClampNeg)), .long (Int32.toInt64 (gF z 8 b1.toNatClampNeg))]) (rest := []) C h (m_X9_in l D t a (Int32.toInt64 b2) (Int32.toInt64 (gF z 7 b1.toNatClampNeg)) (Int32.toInt64 (gF z 8 b1.toNatClampNeg)) z _ hw) mw_X9_in lm_X9_139 md_X9_in ⟨by decide, by decide⟩ ⟨Nat.zero_le _, Nat.zero_le _⟩ hl.1 rfl (Nat.le_of_ble_eq_true rfl) dX9_mayBegin_24 (fun r3 z2 H locs hw h => ?_)
    rw [hw.1] at h
    have hw := hw.2
    refine lv_if_eq (tgt := 44) (pc := 27) C.1 C.2.1 dX9_mayBegin_27 (by decide) (fun c4 => ?_) (fun c4 => ?_)
    · have hw := hw.1 c4
      refine lv_iconst (v := 0) (pc := 44) C.1 C.2.1 dX9_mayBegin_44 (by decide) ?_
      exact rt_z (pc := 45) C hr hlk h (Or.inl rfl) hw dX9_mayBegin_45
    · have hw := hw.2 c4
      refine lv_iload_n (pc := 30) C.1 C.2.1 dX9_mayBegin_30 rfl (lv_at hl 2 rfl) ?_
      refine lv_aload_n (pc := 31) C.1 C.2.1 dX9_mayBegin_31 rfl (lv_at hl 0 rfl) ?_
      refine GM_X9_42_0 (pc := 32) C h dX9_mayBegin_32 ?_
      refine lv_iload_n (pc := 35) C.1 C.2.1 dX9_mayBegin_35 rfl (lv_at hl 1 rfl) ?_
      refine ldM_9 (pc := 36) C h hw.1 dX9_mayBegin_36 ?_
      have hw := hw.2
      refine lv_iadd (pc := 37) C.1 C.2.1 dX9_mayBegin_37 ?_
      refine lv_sipush (v := 168) (pc := 38) C.1 C.2.1 dX9_mayBegin_38 (by decide) ?_
      refine lv_icmp_le (tgt := 46) (pc := 41) C.1 C.2.1 dX9_mayBegin_41 (by decide) (fun c5 => ?_) (fun c5 => ?_)
      · have hw := hw.1 c5
        refine lv_iconst (v := 0) (pc := 46) C.1 C.2.1 dX9_mayBegin_46 (by decide) ?_
        have hw := hw (fun (v6 : Int32) (z8 : St) => ∀ (H : Heap) (locs : List Loc) (ls : Array Slot), wd D t A s (wM t a z8) H locs → lv_has ls 7 [(0, .ref (a 0)), (1, .int b1), (2, .int b2), (3, .int v6)] → W p l e (rmd 3) s m args below meth c H locs 0 0 (QI D t A (wM t a) P below args s) (F0 m 48 ls [])) (by
            intro v6 z8 hw H locs ls h hl
            refine lv_iload_n (pc := 48) C.1 C.2.1 dX9_mayBegin_48 rfl (lv_at hl 3 rfl) ?_
            refine lv_aload_n (pc := 49) C.1 C.2.1 dX9_mayBegin_49 rfl (lv_at hl 0 rfl) ?_
            refine GM_X9_42_0 (pc := 50) C h dX9_mayBegin_50 ?_
            refine lv_iload_n (pc := 53) C.1 C.2.1 dX9_mayBegin_53 rfl (lv_at hl 1 rfl) ?_
            refine ldM_9 (pc := 54) C h hw.1 dX9_mayBegin_54 ?_
            have hw := hw.2
            refine lv_icmp_ge (tgt := 188) (pc := 55) C.1 C.2.1 dX9_mayBegin_55 (by decide) (fun c9 => ?_) (fun c9 => ?_)
            · have hw := hw.1 c9
              refine lv_iconst (v := 1) (pc := 188) C.1 C.2.1 dX9_mayBegin_188 (by decide) ?_
              refine lv_istore_n (lv' := [(3, .int ((1 : Int32))), (0, .ref (a 0)), (1, .int b1), (2, .int b2)]) (pc := 189) C.1 C.2.1 dX9_mayBegin_189 rfl hl (by decide) rfl (fun ls hl => ?_)
              refine lv_iconst (v := 0) (pc := 190) C.1 C.2.1 dX9_mayBegin_190 (by decide) ?_
              have hw := hw (fun (v10 : Int32) (v11 : Int32) => ∀ (H : Heap) (locs : List Loc) (ls : Array Slot), wd D t A s (wM t a z8) H locs → lv_has ls 7 [(0, .ref (a 0)), (1, .int b1), (2, .int b2), (3, .int v10), (4, .int v11)] → W p l e (rmd 3) s m args below meth c H locs 0 0 (QI D t A (wM t a) P below args s) (F0 m 193 ls [])) (by
                  intro v10 v11 hw H locs ls h hl
                  refine lv_iload (pc := 193) C.1 C.2.1 dX9_mayBegin_193 (lv_at hl 4 rfl) ?_
                  refine lv_aload_n (pc := 195) C.1 C.2.1 dX9_mayBegin_195 rfl (lv_at hl 0 rfl) ?_
                  refine GM_X9_207_0 (pc := 196) C h dX9_mayBegin_196 ?_
                  refine lv_icmp_ge (tgt := 374) (pc := 199) C.1 C.2.1 dX9_mayBegin_199 (by decide) (fun c13 => ?_) (fun c13 => ?_)
                  · have hw := hw.1 c13
                    refine lv_iload_n (pc := 374) C.1 C.2.1 dX9_mayBegin_374 rfl (lv_at hl 3 rfl) ?_
                    exact rt_z (pc := 375) C hr hlk h hw.1 hw.2 dX9_mayBegin_375
                  · have hw := hw.2 c13
                    refine lv_aload_n (pc := 202) C.1 C.2.1 dX9_mayBegin_202 rfl (lv_at hl 0 rfl) ?_
                    refine GM_X9_57_0 (pc := 203) C h dX9_mayBegin_203 ?_
                    refine lv_iload (pc := 206) C.1 C.2.1 dX9_mayBegin_206 (lv_at hl 4 rfl) ?_
                    refine ldM_14 (pc := 208) C h hw.1 dX9_mayBegin_208 ?_
                    have hw := hw.2
                    refine lv_iconst (v := 2) (pc := 209) C.1 C.2.1 dX9_mayBegin_209 (by decide) ?_
                    have hw := hw (fun (v14 : Int32) => ∀ (H : Heap) (locs : List Loc) (ls : Array Slot), wd D t A s (wM t a z8) H locs → lv_has ls 7 [(0, .ref (a 0)), (1, .int b1), (2, .int b2), (3, .int v14), (4, .int v11)] → W p l e (rmd 3) s m args below meth c H locs 0 0 (QI D t A (wM t a) P below args s) (F0 m 368 ls [])) (by
                        intro v14 hw H locs ls h hl
                        obtain ⟨x16, ex16⟩ : ∃ y : Int32, y = v11 + (1) := ⟨_, rfl⟩
                        have hw := hw x16 ex16
                        refine lv_iinc (v := x16) (lv' := [(4, .int x16), (0, .ref (a 0)), (1, .int b1), (2, .int b2), (3, .int v14)]) (pc := 368) C.1 C.2.1 dX9_mayBegin_368 hl (k := 4) rfl (by rw [ex16]; rfl) (by decide) rfl (fun ls hl => ?_)
                        refine lv_goto (tgt := 193) (pc := 371) C.1 C.2.1 dX9_mayBegin_371 (by decide) ?_
                        exact hw _ _ _ h (lv_sub hl [1, 2, 3, 4, 0] rfl))
                    refine lv_icmp_eq (tgt := 216) (pc := 210) C.1 C.2.1 dX9_mayBegin_210 (by decide) (fun c17 => ?_) (fun c17 => ?_)
                    · have hw := hw.1 c17
                      refine lv_aload_n (pc := 216) C.1 C.2.1 dX9_mayBegin_216 rfl (lv_at hl 0 rfl) ?_
                      refine GM_X9_60_0 (pc := 217) C h dX9_mayBegin_217 ?_
                      refine lv_iload (pc := 220) C.1 C.2.1 dX9_mayBegin_220 (lv_at hl 4 rfl) ?_
                      refine ldM_15 (pc := 222) C h hw.1 dX9_mayBegin_222 ?_
                      have hw := hw.2
                      refine lv_iload_n (pc := 223) C.1 C.2.1 dX9_mayBegin_223 rfl (lv_at hl 1 rfl) ?_
                      have hw := hw (fun (v18 : Int32) => ∀ (H : Heap) (locs : List Loc) (ls : Array Slot), wd D t A s (wM t a z8) H locs → lv_has ls 7 [(0, .ref (a 0)), (1, .int b1), (2, .int b2), (3, .int v18), (4, .int v11)] → W p l e (rmd 3) s m args below meth c H locs 0 0 (QI D t A (wM t a) P below args s) (F0 m 289 ls [])) (by
                          intro v18 hw H locs ls h hl
                          refine lv_aload_n (pc := 289) C.1 C.2.1 dX9_mayBegin_289 rfl (lv_at hl 0 rfl) ?_
                          refine GM_X9_63_0 (pc := 290) C h dX9_mayBegin_290 ?_
                          refine lv_iload (pc := 293) C.1 C.2.1 dX9_mayBegin_293 (lv_at hl 4 rfl) ?_
                          refine ldM_16 (pc := 295) C h hw.1 dX9_mayBegin_295 ?_
                          have hw := hw.2
                          refine lv_iload_n (pc := 296) C.1 C.2.1 dX9_mayBegin_296 rfl (lv_at hl 1 rfl) ?_
                          refine lv_icmp_ne (tgt := 368) (pc := 297) C.1 C.2.1 dX9_mayBegin_297 (by decide) (fun c20 => ?_) (fun c20 => ?_)
                          · have hw := hw.1 c20
                            exact hw _ _ _ h (lv_sub hl [0, 1, 2, 3, 4] rfl)
                          · have hw := hw.2 c20
                            refine lv_aload_n (pc := 300) C.1 C.2.1 dX9_mayBegin_300 rfl (lv_at hl 0 rfl) ?_
                            refine lv_aload_n (pc := 301) C.1 C.2.1 dX9_mayBegin_301 rfl (lv_at hl 0 rfl) ?_
                            refine GM_X9_60_0 (pc := 302) C h dX9_mayBegin_302 ?_
                            refine lv_iload (pc := 305) C.1 C.2.1 dX9_mayBegin_305 (lv_at hl 4 rfl) ?_
                            refine ldM_15 (pc := 307) C h hw.1 dX9_mayBegin_307 ?_
                            have hw := hw.2
                            refine cl_vi (pc := 308) (As := [.int (gF z8 15 v11.toNatClampNeg)]) (rest := []) C h (m_X9_isJob l D t a (gF z8 15 v11.toNatClampNeg) z8 _ hw) mw_X9_isJob lm_X9_193 md_X9_isJob rcM_0 ⟨by decide, by decide⟩ ⟨Nat.zero_le _, Nat.zero_le _⟩ hl.1 rfl (Nat.le_of_ble_eq_true rfl) dX9_mayBegin_308 (fun r22 z21 H locs hw h => ?_)
                            rw [hw.1] at h
                            have hw := hw.2
                            refine lv_if_eq (tgt := 368) (pc := 311) C.1 C.2.1 dX9_mayBegin_311 (by decide) (fun c23 => ?_) (fun c23 => ?_)
                            · have hw := hw.1 c23
                              exact hw _ _ _ h (lv_sub hl [0, 1, 2, 3, 4] rfl)
                            · have hw := hw.2 c23
                              refine lv_aload_n (pc := 314) C.1 C.2.1 dX9_mayBegin_314 rfl (lv_at hl 0 rfl) ?_
                              refine GM_X9_48_0 (pc := 315) C h dX9_mayBegin_315 ?_
                              refine lv_aload_n (pc := 318) C.1 C.2.1 dX9_mayBegin_318 rfl (lv_at hl 0 rfl) ?_
                              refine GM_X9_60_0 (pc := 319) C h dX9_mayBegin_319 ?_
                              refine lv_iload (pc := 322) C.1 C.2.1 dX9_mayBegin_322 (lv_at hl 4 rfl) ?_
                              refine ldM_15 (pc := 324) C h hw.1 dX9_mayBegin_324 ?_
                              have hw := hw.2
                              refine ldM_11 (pc := 325) C h hw.1 dX9_mayBegin_325 ?_
                              have hw := hw.2
                              refine lv_if_eq (tgt := 368) (pc := 326) C.1 C.2.1 dX9_mayBegin_326 (by decide) (fun c24 => ?_) (fun c24 => ?_)
                              · have hw := hw.1 c24
                                exact hw _ _ _ h (lv_sub hl [0, 1, 2, 3, 4] rfl)
                              · have hw := hw.2 c24
                                refine lv_iload_n (pc := 329) C.1 C.2.1 dX9_mayBegin_329 rfl (lv_at hl 3 rfl) ?_
                                have hw := hw (fun (s25 : Int32) => ∀ (H : Heap) (locs : List Loc) (ls : Array Slot), wd D t A s (wM t a z8) H locs → lv_has ls 7 [(0, .ref (a 0)), (1, .int b1), (2, .int b2), (4, .int v11)] → W p l e (rmd 3) s m args below meth c H locs 0 0 (QI D t A (wM t a) P below args s) (F0 m 367 ls [.int s25])) (by
                                    intro s25 hw H locs ls h hl
                                    refine lv_istore_n (lv' := [(3, .int s25), (0, .ref (a 0)), (1, .int b1), (2, .int b2), (4, .int v11)]) (pc := 367) C.1 C.2.1 dX9_mayBegin_367 rfl hl (by decide) rfl (fun ls hl => ?_)
                                    exact hw _ _ _ h (lv_sub hl [1, 2, 3, 0, 4] rfl))
                                have hw := hw (∀ (H : Heap) (locs : List Loc) (ls : Array Slot), wd D t A s (wM t a z8) H locs → lv_has ls 7 [(0, .ref (a 0)), (1, .int b1), (2, .int b2), (4, .int v11)] → W p l e (rmd 3) s m args below meth c H locs 0 0 (QI D t A (wM t a) P below args s) (F0 m 366 ls [])) (by
                                    intro hw H locs ls h hl
                                    refine lv_iconst (v := 0) (pc := 366) C.1 C.2.1 dX9_mayBegin_366 (by decide) ?_
                                    exact hw _ _ _ h (lv_sub hl [0, 1, 2, 3] rfl))
                                refine lv_if_eq (tgt := 366) (pc := 330) C.1 C.2.1 dX9_mayBegin_330 (by decide) (fun c28 => ?_) (fun c28 => ?_)
                                · have hw := hw.1 c28
                                  exact hw _ _ _ h (lv_sub hl [0, 1, 2, 4] rfl)
                                · have hw := hw.2 c28
                                  refine lv_iload_n (pc := 333) C.1 C.2.1 dX9_mayBegin_333 rfl (lv_at hl 2 rfl) ?_
                                  refine lv_aload_n (pc := 334) C.1 C.2.1 dX9_mayBegin_334 rfl (lv_at hl 0 rfl) ?_
                                  refine GM_X9_51_0 (pc := 335) C h dX9_mayBegin_335 ?_
                                  refine lv_aload_n (pc := 338) C.1 C.2.1 dX9_mayBegin_338 rfl (lv_at hl 0 rfl) ?_
                                  refine GM_X9_60_0 (pc := 339) C h dX9_mayBegin_339 ?_
                                  refine lv_iload (pc := 342) C.1 C.2.1 dX9_mayBegin_342 (lv_at hl 4 rfl) ?_
                                  refine ldM_15 (pc := 344) C h hw.1 dX9_mayBegin_344 ?_
                                  have hw := hw.2
                                  refine ldM_12 (pc := 345) C h hw.1 dX9_mayBegin_345 ?_
                                  have hw := hw.2
                                  refine lv_aload_n (pc := 346) C.1 C.2.1 dX9_mayBegin_346 rfl (lv_at hl 0 rfl) ?_
                                  refine GM_X9_42_0 (pc := 347) C h dX9_mayBegin_347 ?_
                                  refine lv_aload_n (pc := 350) C.1 C.2.1 dX9_mayBegin_350 rfl (lv_at hl 0 rfl) ?_
                                  refine GM_X9_60_0 (pc := 351) C h dX9_mayBegin_351 ?_
                                  refine lv_iload (pc := 354) C.1 C.2.1 dX9_mayBegin_354 (lv_at hl 4 rfl) ?_
                                  refine ldM_15 (pc := 356) C h hw.1 dX9_mayBegin_356 ?_
                                  have hw := hw.2
                                  refine ldM_9 (pc := 357) C h hw.1 dX9_mayBegin_357 ?_
                                  have hw := hw.2
                                  refine lv_iadd (pc := 358) C.1 C.2.1 dX9_mayBegin_358 ?_
                                  refine lv_icmp_lt (tgt := 366) (pc := 359) C.1 C.2.1 dX9_mayBegin_359 (by decide) (fun c29 => ?_) (fun c29 => ?_)
                                  · have hw := hw.1 c29
                                    exact hw _ _ _ h (lv_sub hl [0, 1, 2, 4] rfl)
                                  · have hw := hw.2 c29
                                    refine lv_iconst (v := 1) (pc := 362) C.1 C.2.1 dX9_mayBegin_362 (by decide) ?_
                                    refine lv_goto (tgt := 367) (pc := 363) C.1 C.2.1 dX9_mayBegin_363 (by decide) ?_
                                    exact hw _ _ _ h (lv_sub hl [0, 1, 2, 4] rfl))
                      refine lv_icmp_ne (tgt := 289) (pc := 224) C.1 C.2.1 dX9_mayBegin_224 (by decide) (fun c30 => ?_) (fun c30 => ?_)
                      · have hw := hw.1 c30
                        exact hw _ _ _ h (lv_sub hl [0, 1, 2, 3, 4] rfl)
                      · have hw := hw.2 c30
                        refine lv_aload_n (pc := 227) C.1 C.2.1 dX9_mayBegin_227 rfl (lv_at hl 0 rfl) ?_
                        refine lv_aload_n (pc := 228) C.1 C.2.1 dX9_mayBegin_228 rfl (lv_at hl 0 rfl) ?_
                        refine GM_X9_63_0 (pc := 229) C h dX9_mayBegin_229 ?_
                        refine lv_iload (pc := 232) C.1 C.2.1 dX9_mayBegin_232 (lv_at hl 4 rfl) ?_
                        refine ldM_16 (pc := 234) C h hw.1 dX9_mayBegin_234 ?_
                        have hw := hw.2
                        refine cl_vi (pc := 235) (As := [.int (gF z8 16 v11.toNatClampNeg)]) (rest := []) C h (m_X9_isJob l D t a (gF z8 16 v11.toNatClampNeg) z8 _ hw) mw_X9_isJob lm_X9_193 md_X9_isJob rcM_0 ⟨by decide, by decide⟩ ⟨Nat.zero_le _, Nat.zero_le _⟩ hl.1 rfl (Nat.le_of_ble_eq_true rfl) dX9_mayBegin_235 (fun r32 z31 H locs hw h => ?_)
                        rw [hw.1] at h
                        have hw := hw.2
                        refine lv_if_eq (tgt := 289) (pc := 238) C.1 C.2.1 dX9_mayBegin_238 (by decide) (fun c33 => ?_) (fun c33 => ?_)
                        · have hw := hw.1 c33
                          exact hw _ _ _ h (lv_sub hl [0, 1, 2, 3, 4] rfl)
                        · have hw := hw.2 c33
                          refine lv_aload_n (pc := 241) C.1 C.2.1 dX9_mayBegin_241 rfl (lv_at hl 0 rfl) ?_
                          refine GM_X9_48_0 (pc := 242) C h dX9_mayBegin_242 ?_
                          refine lv_aload_n (pc := 245) C.1 C.2.1 dX9_mayBegin_245 rfl (lv_at hl 0 rfl) ?_
                          refine GM_X9_63_0 (pc := 246) C h dX9_mayBegin_246 ?_
                          refine lv_iload (pc := 249) C.1 C.2.1 dX9_mayBegin_249 (lv_at hl 4 rfl) ?_
                          refine ldM_16 (pc := 251) C h hw.1 dX9_mayBegin_251 ?_
                          have hw := hw.2
                          refine ldM_11 (pc := 252) C h hw.1 dX9_mayBegin_252 ?_
                          have hw := hw.2
                          refine lv_if_eq (tgt := 289) (pc := 253) C.1 C.2.1 dX9_mayBegin_253 (by decide) (fun c34 => ?_) (fun c34 => ?_)
                          · have hw := hw.1 c34
                            exact hw _ _ _ h (lv_sub hl [0, 1, 2, 3, 4] rfl)
                          · have hw := hw.2 c34
                            refine lv_iload_n (pc := 256) C.1 C.2.1 dX9_mayBegin_256 rfl (lv_at hl 3 rfl) ?_
                            have hw := hw (fun (s35 : Int32) => ∀ (H : Heap) (locs : List Loc) (ls : Array Slot), wd D t A s (wM t a z8) H locs → lv_has ls 7 [(0, .ref (a 0)), (1, .int b1), (2, .int b2), (4, .int v11)] → W p l e (rmd 3) s m args below meth c H locs 0 0 (QI D t A (wM t a) P below args s) (F0 m 288 ls [.int s35])) (by
                                intro s35 hw H locs ls h hl
                                refine lv_istore_n (lv' := [(3, .int s35), (0, .ref (a 0)), (1, .int b1), (2, .int b2), (4, .int v11)]) (pc := 288) C.1 C.2.1 dX9_mayBegin_288 rfl hl (by decide) rfl (fun ls hl => ?_)
                                exact hw _ _ _ h (lv_sub hl [1, 2, 3, 0, 4] rfl))
                            have hw := hw (∀ (H : Heap) (locs : List Loc) (ls : Array Slot), wd D t A s (wM t a z8) H locs → lv_has ls 7 [(0, .ref (a 0)), (1, .int b1), (2, .int b2), (4, .int v11)] → W p l e (rmd 3) s m args below meth c H locs 0 0 (QI D t A (wM t a) P below args s) (F0 m 287 ls [])) (by
                                intro hw H locs ls h hl
                                refine lv_iconst (v := 0) (pc := 287) C.1 C.2.1 dX9_mayBegin_287 (by decide) ?_
                                exact hw _ _ _ h (lv_sub hl [0, 1, 2, 3] rfl))
                            refine lv_if_eq (tgt := 287) (pc := 257) C.1 C.2.1 dX9_mayBegin_257 (by decide) (fun c38 => ?_) (fun c38 => ?_)
                            · have hw := hw.1 c38
                              exact hw _ _ _ h (lv_sub hl [0, 1, 2, 4] rfl)
                            · have hw := hw.2 c38
                              refine lv_aload_n (pc := 260) C.1 C.2.1 dX9_mayBegin_260 rfl (lv_at hl 0 rfl) ?_
                              refine GM_X9_51_0 (pc := 261) C h dX9_mayBegin_261 ?_
                              refine lv_aload_n (pc := 264) C.1 C.2.1 dX9_mayBegin_264 rfl (lv_at hl 0 rfl) ?_
                              refine GM_X9_63_0 (pc := 265) C h dX9_mayBegin_265 ?_
                              refine lv_iload (pc := 268) C.1 C.2.1 dX9_mayBegin_268 (lv_at hl 4 rfl) ?_
                              refine ldM_16 (pc := 270) C h hw.1 dX9_mayBegin_270 ?_
                              have hw := hw.2
                              refine ldM_12 (pc := 271) C h hw.1 dX9_mayBegin_271 ?_
                              have hw := hw.2
                              refine lv_iload_n (pc := 272) C.1 C.2.1 dX9_mayBegin_272 rfl (lv_at hl 2 rfl) ?_
                              refine lv_aload_n (pc := 273) C.1 C.2.1 dX9_mayBegin_273 rfl (lv_at hl 0 rfl) ?_
                              refine GM_X9_42_0 (pc := 274) C h dX9_mayBegin_274 ?_
                              refine lv_iload_n (pc := 277) C.1 C.2.1 dX9_mayBegin_277 rfl (lv_at hl 1 rfl) ?_
                              refine ldM_9 (pc := 278) C h hw.1 dX9_mayBegin_278 ?_
                              have hw := hw.2
                              refine lv_iadd (pc := 279) C.1 C.2.1 dX9_mayBegin_279 ?_
                              refine lv_icmp_lt (tgt := 287) (pc := 280) C.1 C.2.1 dX9_mayBegin_280 (by decide) (fun c39 => ?_) (fun c39 => ?_)
                              · have hw := hw.1 c39
                                exact hw _ _ _ h (lv_sub hl [0, 1, 2, 4] rfl)
                              · have hw := hw.2 c39
                                refine lv_iconst (v := 1) (pc := 283) C.1 C.2.1 dX9_mayBegin_283 (by decide) ?_
                                refine lv_goto (tgt := 288) (pc := 284) C.1 C.2.1 dX9_mayBegin_284 (by decide) ?_
                                exact hw _ _ _ h (lv_sub hl [0, 1, 2, 4] rfl)
                    · have hw := hw.2 c17
                      refine lv_goto (tgt := 368) (pc := 213) C.1 C.2.1 dX9_mayBegin_213 (by decide) ?_
                      exact hw _ _ _ h (lv_sub hl [0, 1, 2, 3, 4] rfl))
              refine lv_istore (lv' := [(4, .int ((0 : Int32))), (3, .int ((1 : Int32))), (0, .ref (a 0)), (1, .int b1), (2, .int b2)]) (pc := 191) C.1 C.2.1 dX9_mayBegin_191 hl (by decide) rfl (fun ls hl => ?_)
              exact hw _ _ _ h (lv_sub hl [2, 3, 4, 1, 0] rfl)
            · have hw := hw.2 c9
              refine lv_iload_n (pc := 58) C.1 C.2.1 dX9_mayBegin_58 rfl (lv_at hl 2 rfl) ?_
              refine lv_iload_n (pc := 59) C.1 C.2.1 dX9_mayBegin_59 rfl (lv_at hl 3 rfl) ?_
              refine lv_iadd (pc := 60) C.1 C.2.1 dX9_mayBegin_60 ?_
              refine lv_topi (fun x40 ex40 => ?_)
              have hw := hw x40 ex40
              refine lv_istore (lv' := [(4, .int x40), (0, .ref (a 0)), (1, .int b1), (2, .int b2), (3, .int v6)]) (pc := 61) C.1 C.2.1 dX9_mayBegin_61 hl (by decide) rfl (fun ls hl => ?_)
              refine lv_aload_n (pc := 63) C.1 C.2.1 dX9_mayBegin_63 rfl (lv_at hl 1 rfl) ?_
              refine lv_aload_n (pc := 64) C.1 C.2.1 dX9_mayBegin_64 rfl (lv_at hl 1 rfl) ?_
              refine GM_X9_33_0 (pc := 65) C h dX9_mayBegin_65 ?_
              refine lv_iload_n (pc := 68) C.1 C.2.1 dX9_mayBegin_68 rfl (lv_at hl 2 rfl) ?_
              refine ldM_6 (pc := 69) C h hw.1 dX9_mayBegin_69 ?_
              have hw := hw.2
              refine lv_iload (pc := 70) C.1 C.2.1 dX9_mayBegin_70 (lv_at hl 0 rfl) ?_
              refine cl_vi (pc := 72) (As := [.int (gF z8 6 b1.toNatClampNeg), .int x40]) (rest := []) C h (m_X9_isQuiet l D t a (gF z8 6 b1.toNatClampNeg) x40 z8 _ hw) mw_X9_isQuiet lm_X9_213 md_X9_isQuiet rcM_0 ⟨by decide, by decide⟩ ⟨Nat.zero_le _, Nat.zero_le _⟩ hl.1 rfl (Nat.le_of_ble_eq_true rfl) dX9_mayBegin_72 (fun r42 z41 H locs hw h => ?_)
              rw [hw.1] at h
              have hw := hw.2
              refine lv_if_ne (tgt := 125) (pc := 75) C.1 C.2.1 dX9_mayBegin_75 (by decide) (fun c43 => ?_) (fun c43 => ?_)
              · have hw := hw.1 c43
                refine lv_iconst (v := 0) (pc := 125) C.1 C.2.1 dX9_mayBegin_125 (by decide) ?_
                exact rt_z (pc := 126) C hr hlk h (Or.inl rfl) hw dX9_mayBegin_126
              · have hw := hw.2 c43
                refine lv_aload_n (pc := 78) C.1 C.2.1 dX9_mayBegin_78 rfl (lv_at hl 1 rfl) ?_
                refine lv_iload (pc := 79) C.1 C.2.1 dX9_mayBegin_79 (lv_at hl 0 rfl) ?_
                refine cl_vi (pc := 81) (As := [.int x40]) (rest := []) C h (m_X9_isDear l D t a x40 z8 _ hw) mw_X9_isDear lm_X9_217 md_X9_isDear rcM_0 ⟨by decide, by decide⟩ ⟨Nat.zero_le _, Nat.zero_le _⟩ hl.1 rfl (Nat.le_of_ble_eq_true rfl) dX9_mayBegin_81 (fun r45 z44 H locs hw h => ?_)
                refine lv_if_ne (tgt := 125) (pc := 84) C.1 C.2.1 dX9_mayBegin_84 (by decide) (fun c46 => ?_) (fun c46 => ?_)
                · have hw := hw.1 c46
                  refine lv_iconst (v := 0) (pc := 125) C.1 C.2.1 dX9_mayBegin_125 (by decide) ?_
                  exact rt_z (pc := 126) C hr hlk h (Or.inl rfl) hw dX9_mayBegin_126
                · have hw := hw.2 c46
                  refine lv_aload_n (pc := 87) C.1 C.2.1 dX9_mayBegin_87 rfl (lv_at hl 1 rfl) ?_
                  refine lv_aload_n (pc := 88) C.1 C.2.1 dX9_mayBegin_88 rfl (lv_at hl 1 rfl) ?_
                  refine GM_X9_33_0 (pc := 89) C h dX9_mayBegin_89 ?_
                  refine lv_iload_n (pc := 92) C.1 C.2.1 dX9_mayBegin_92 rfl (lv_at hl 2 rfl) ?_
                  refine ldM_6 (pc := 93) C h hw.1 dX9_mayBegin_93 ?_
                  have hw := hw.2
                  refine lv_iload (pc := 94) C.1 C.2.1 dX9_mayBegin_94 (lv_at hl 0 rfl) ?_
                  refine lv_iload_n (pc := 96) C.1 C.2.1 dX9_mayBegin_96 rfl (lv_at hl 2 rfl) ?_
                  refine cl_vi (pc := 97) (As := [.int (gF z44 6 b1.toNatClampNeg), .int x40, .int b1]) (rest := []) C h (m_X9_loadOf l D t a (gF z44 6 b1.toNatClampNeg) x40 b1 z44 _ hw) mw_X9_loadOf lm_X9_203 md_X9_loadOf rcM_0 ⟨by decide, by decide⟩ ⟨Nat.zero_le _, Nat.zero_le _⟩ hl.1 rfl (Nat.le_of_ble_eq_true rfl) dX9_mayBegin_97 (fun r48 z47 H locs hw h => ?_)
                  rw [hw.1] at h
                  have hw := hw.2
                  refine lv_aload_n (pc := 100) C.1 C.2.1 dX9_mayBegin_100 rfl (lv_at hl 1 rfl) ?_
                  refine GM_X9_45_0 (pc := 101) C h dX9_mayBegin_101 ?_
                  refine lv_iconst (v := 4) (pc := 104) C.1 C.2.1 dX9_mayBegin_104 (by decide) ?_
                  refine lv_iload_n (pc := 105) C.1 C.2.1 dX9_mayBegin_105 rfl (lv_at hl 2 rfl) ?_
                  refine lv_imul (pc := 106) C.1 C.2.1 dX9_mayBegin_106 ?_
                  refine lv_iload_n (pc := 107) C.1 C.2.1 dX9_mayBegin_107 rfl (lv_at hl 4 rfl) ?_
                  refine lv_iadd (pc := 108) C.1 C.2.1 dX9_mayBegin_108 ?_
                  refine ldM_10 (pc := 109) C h hw.1 dX9_mayBegin_109 ?_
                  have hw := hw.2
                  refine lv_iadd (pc := 110) C.1 C.2.1 dX9_mayBegin_110 ?_
                  refine lv_aload_n (pc := 111) C.1 C.2.1 dX9_mayBegin_111 rfl (lv_at hl 1 rfl) ?_
                  refine GM_X9_23_0 (pc := 112) C h dX9_mayBegin_112 ?_
                  refine lv_aload_n (pc := 115) C.1 C.2.1 dX9_mayBegin_115 rfl (lv_at hl 1 rfl) ?_
                  refine GM_X9_33_0 (pc := 116) C h dX9_mayBegin_116 ?_
                  refine lv_iload_n (pc := 119) C.1 C.2.1 dX9_mayBegin_119 rfl (lv_at hl 2 rfl) ?_
                  refine ldM_6 (pc := 120) C h hw.1 dX9_mayBegin_120 ?_
                  have hw := hw.2
                  refine ldM_4 (pc := 121) C h hw.1 dX9_mayBegin_121 ?_
                  have hw := hw.2
                  refine lv_icmp_le (tgt := 127) (pc := 122) C.1 C.2.1 dX9_mayBegin_122 (by decide) (fun c49 => ?_) (fun c49 => ?_)
                  · have hw := hw.1 c49
                    refine lv_aload_n (pc := 127) C.1 C.2.1 dX9_mayBegin_127 rfl (lv_at hl 1 rfl) ?_
                    refine GM_X9_45_0 (pc := 128) C h dX9_mayBegin_128 ?_
                    refine lv_iconst (v := 4) (pc := 131) C.1 C.2.1 dX9_mayBegin_131 (by decide) ?_
                    refine lv_iload_n (pc := 132) C.1 C.2.1 dX9_mayBegin_132 rfl (lv_at hl 2 rfl) ?_
                    refine lv_imul (pc := 133) C.1 C.2.1 dX9_mayBegin_133 ?_
                    refine lv_iload_n (pc := 134) C.1 C.2.1 dX9_mayBegin_134 rfl (lv_at hl 4 rfl) ?_
                    refine lv_iadd (pc := 135) C.1 C.2.1 dX9_mayBegin_135 ?_
                    refine ldM_10 (pc := 136) C h hw.1 dX9_mayBegin_136 ?_
                    have hw := hw.2
                    refine lv_topi (fun x50 ex50 => ?_)
                    have hw := hw x50 ex50
                    refine lv_istore (lv' := [(5, .int x50), (4, .int x40), (0, .ref (a 0)), (1, .int b1), (2, .int b2), (3, .int v6)]) (pc := 137) C.1 C.2.1 dX9_mayBegin_137 hl (by decide) rfl (fun ls hl => ?_)
                    refine lv_iconst (v := 0) (pc := 139) C.1 C.2.1 dX9_mayBegin_139 (by decide) ?_
                    have hw := hw (fun (v51 : Int32) (v52 : Int32) => ∀ (H : Heap) (locs : List Loc) (ls : Array Slot), wd D t A s (wM t a z44) H locs → lv_has ls 7 [(0, .ref (a 0)), (1, .int b1), (2, .int b2), (3, .int v6), (4, .int x40), (5, .int v51), (6, .int v52)] → W p l e (rmd 3) s m args below meth c H locs 0 0 (QI D t A (wM t a) P below args s) (F0 m 142 ls [])) (by
                        intro v51 v52 hw H locs ls h hl
                        refine lv_iload (pc := 142) C.1 C.2.1 dX9_mayBegin_142 (lv_at hl 6 rfl) ?_
                        refine lv_aload_n (pc := 144) C.1 C.2.1 dX9_mayBegin_144 rfl (lv_at hl 0 rfl) ?_
                        refine GM_X9_145_0 (pc := 145) C h dX9_mayBegin_145 ?_
                        refine lv_icmp_ge (tgt := 171) (pc := 148) C.1 C.2.1 dX9_mayBegin_148 (by decide) (fun c54 => ?_) (fun c54 => ?_)
                        · have hw := hw.1 c54
                          refine lv_iload (pc := 171) C.1 C.2.1 dX9_mayBegin_171 (lv_at hl 5 rfl) ?_
                          refine lv_aload_n (pc := 173) C.1 C.2.1 dX9_mayBegin_173 rfl (lv_at hl 0 rfl) ?_
                          refine GM_X9_30_0 (pc := 174) C h dX9_mayBegin_174 ?_
                          refine lv_icmp_le (tgt := 182) (pc := 177) C.1 C.2.1 dX9_mayBegin_177 (by decide) (fun c55 => ?_) (fun c55 => ?_)
                          · have hw := hw.1 c55
                            obtain ⟨x56, ex56⟩ : ∃ y : Int32, y = v6 + (1) := ⟨_, rfl⟩
                            have hw := hw x56 ex56
                            refine lv_iinc (v := x56) (lv' := [(3, .int x56), (0, .ref (a 0)), (1, .int b1), (2, .int b2), (4, .int x40), (5, .int v51), (6, .int v52)]) (pc := 182) C.1 C.2.1 dX9_mayBegin_182 hl (k := 3) rfl (by rw [ex56]; rfl) (by decide) rfl (fun ls hl => ?_)
                            refine lv_goto (tgt := 48) (pc := 185) C.1 C.2.1 dX9_mayBegin_185 (by decide) ?_
                            exact hw _ _ _ h (lv_sub hl [1, 2, 3, 0] rfl)
                          · have hw := hw.2 c55
                            refine lv_iconst (v := 0) (pc := 180) C.1 C.2.1 dX9_mayBegin_180 (by decide) ?_
                            exact rt_z (pc := 181) C hr hlk h (Or.inl rfl) hw dX9_mayBegin_181
                        · have hw := hw.2 c54
                          refine lv_iload (pc := 151) C.1 C.2.1 dX9_mayBegin_151 (lv_at hl 5 rfl) ?_
                          refine lv_aload_n (pc := 153) C.1 C.2.1 dX9_mayBegin_153 rfl (lv_at hl 0 rfl) ?_
                          refine lv_iload (pc := 154) C.1 C.2.1 dX9_mayBegin_154 (lv_at hl 6 rfl) ?_
                          refine lv_iload (pc := 156) C.1 C.2.1 dX9_mayBegin_156 (lv_at hl 4 rfl) ?_
                          refine lv_iload_n (pc := 158) C.1 C.2.1 dX9_mayBegin_158 rfl (lv_at hl 1 rfl) ?_
                          refine cl_vi (pc := 159) (As := [.int v52, .int x40, .int b1]) (rest := [.int v51]) C h (m_X9_loadOf l D t a v52 x40 b1 z44 _ hw) mw_X9_loadOf lm_X9_203 md_X9_loadOf rcM_0 ⟨by decide, by decide⟩ ⟨Nat.zero_le _, Nat.zero_le _⟩ hl.1 rfl (Nat.le_of_ble_eq_true rfl) dX9_mayBegin_159 (fun r58 z57 H locs hw h => ?_)
                          rw [hw.1] at h
                          have hw := hw.2
                          refine lv_iadd (pc := 162) C.1 C.2.1 dX9_mayBegin_162 ?_
                          refine lv_topi (fun x59 ex59 => ?_)
                          have hw := hw x59 ex59
                          refine lv_istore (lv' := [(5, .int x59), (0, .ref (a 0)), (1, .int b1), (2, .int b2), (3, .int v6), (4, .int x40), (6, .int v52)]) (pc := 163) C.1 C.2.1 dX9_mayBegin_163 hl (by decide) rfl (fun ls hl => ?_)
                          obtain ⟨x60, ex60⟩ : ∃ y : Int32, y = v52 + (1) := ⟨_, rfl⟩
                          have hw := hw x60 ex60
                          refine lv_iinc (v := x60) (lv' := [(6, .int x60), (5, .int x59), (0, .ref (a 0)), (1, .int b1), (2, .int b2), (3, .int v6), (4, .int x40)]) (pc := 165) C.1 C.2.1 dX9_mayBegin_165 hl (k := 6) rfl (by rw [ex60]; rfl) (by decide) rfl (fun ls hl => ?_)
                          refine lv_goto (tgt := 142) (pc := 168) C.1 C.2.1 dX9_mayBegin_168 (by decide) ?_
                          exact hw _ _ _ h (lv_sub hl [2, 3, 4, 5, 6, 1, 0] rfl))
                    refine lv_istore (lv' := [(6, .int ((0 : Int32))), (5, .int x50), (4, .int x40), (0, .ref (a 0)), (1, .int b1), (2, .int b2), (3, .int v6)]) (pc := 140) C.1 C.2.1 dX9_mayBegin_140 hl (by decide) rfl (fun ls hl => ?_)
                    exact hw _ _ _ h (lv_sub hl [3, 4, 5, 6, 2, 1, 0] rfl)
                  · have hw := hw.2 c49
                    refine lv_iconst (v := 0) (pc := 125) C.1 C.2.1 dX9_mayBegin_125 (by decide) ?_
                    exact rt_z (pc := 126) C hr hlk h (Or.inl rfl) hw dX9_mayBegin_126)
        refine lv_istore_n (lv' := [(3, .int ((0 : Int32))), (0, .ref (a 0)), (1, .int b1), (2, .int b2)]) (pc := 47) C.1 C.2.1 dX9_mayBegin_47 rfl hl (by decide) rfl (fun ls hl => ?_)
        exact hw _ _ _ h (lv_sub hl [1, 2, 3, 0] rfl)
      · have hw := hw.2 c5
        refine lv_iconst (v := 0) (pc := 44) C.1 C.2.1 dX9_mayBegin_44 (by decide) ?_
        exact rt_z (pc := 45) C hr hlk h (Or.inl rfl) hw dX9_mayBegin_45

def wp_X9_may (b1 : Int32) (b2 : Int32) (z : St) (P : Int32 → St → Prop) : Prop :=
  (∀ z1 : St, z1 = wI z 0 ((0 : Int32)) → (wp_X9_isJob b1 z1 (fun r3 => (((r3 = 0) → P ((-1 : Int32)) z1) ∧ (¬ (r3 = 0) → (vp_in b1 16 ∧ ((((gF z1 11 b1.toNatClampNeg) = ((2 : Int32))) → P ((-1 : Int32)) z1) ∧ (¬ ((gF z1 11 b1.toNatClampNeg) = ((2 : Int32))) → (wp_X9_isHour b2 z1 (fun r7 => (((¬ r7 = 0) → (wp_X9_mayBegin b1 b2 z1 (fun r10 z9 => (((r10 = 0) → P ((0 : Int32)) z9) ∧ (¬ (r10 = 0) → P ((1 : Int32)) z9))))) ∧ (r7 = 0 → P ((-1 : Int32)) z1))))))))))))
set_option maxHeartbeats 4000000 in
set_option maxRecDepth 100000 in
theorem m_X9_may (l : Launch) (D : va_G) (t : Ty3) (a : Nat → Nat) (b1 : Int32) (b2 : Int32) (z : St) (P : Int32 → St → Prop) (hw : wp_X9_may b1 b2 z P) : CtI l D t yX9_may cX9_may 3 (some .int) 4 (wM t a) (wM t a z) [.ref (a 0), .int b1, .int b2] P := by
  refine ctI_of (by decide) (Nat.le_of_ble_eq_true rfl) ?_
  intro p e s m args below meth c A ls C hr hlk h hl
  have hl : lv_has ls 3 [(0, .ref (a 0)), (1, .int b1), (2, .int b2)] := hl
  unfold wp_X9_may at hw
  refine lv_aload_n (pc := 0) C.1 C.2.1 dX9_may_0 rfl (lv_at hl 0 rfl) ?_
  refine lv_iconst (v := 0) (pc := 1) C.1 C.2.1 dX9_may_1 (by decide) ?_
  refine PM_X9_131_0 (pc := 2) C h dX9_may_2 (fun z1 ez1 H locs h => ?_)
  have hw := hw z1 ez1
  refine lv_aload_n (pc := 5) C.1 C.2.1 dX9_may_5 rfl (lv_at hl 0 rfl) ?_
  refine lv_iload_n (pc := 6) C.1 C.2.1 dX9_may_6 rfl (lv_at hl 1 rfl) ?_
  refine cl_vi (pc := 7) (As := [.int b1]) (rest := []) C h (m_X9_isJob l D t a b1 z1 _ hw) mw_X9_isJob lm_X9_193 md_X9_isJob rcM_0 ⟨by decide, by decide⟩ ⟨Nat.zero_le _, Nat.zero_le _⟩ hl.1 rfl (Nat.le_of_ble_eq_true rfl) dX9_may_7 (fun r3 z2 H locs hw h => ?_)
  rw [hw.1] at h
  have hw := hw.2
  refine lv_if_eq (tgt := 30) (pc := 10) C.1 C.2.1 dX9_may_10 (by decide) (fun c4 => ?_) (fun c4 => ?_)
  · have hw := hw.1 c4
    refine lv_iconst (v := -1) (pc := 30) C.1 C.2.1 dX9_may_30 (by decide) ?_
    exact rt_i (pc := 31) C hr hlk h hw dX9_may_31
  · have hw := hw.2 c4
    refine lv_aload_n (pc := 13) C.1 C.2.1 dX9_may_13 rfl (lv_at hl 0 rfl) ?_
    refine GM_X9_48_0 (pc := 14) C h dX9_may_14 ?_
    refine lv_iload_n (pc := 17) C.1 C.2.1 dX9_may_17 rfl (lv_at hl 1 rfl) ?_
    refine ldM_11 (pc := 18) C h hw.1 dX9_may_18 ?_
    have hw := hw.2
    refine lv_iconst (v := 2) (pc := 19) C.1 C.2.1 dX9_may_19 (by decide) ?_
    refine lv_icmp_eq (tgt := 30) (pc := 20) C.1 C.2.1 dX9_may_20 (by decide) (fun c5 => ?_) (fun c5 => ?_)
    · have hw := hw.1 c5
      refine lv_iconst (v := -1) (pc := 30) C.1 C.2.1 dX9_may_30 (by decide) ?_
      exact rt_i (pc := 31) C hr hlk h hw dX9_may_31
    · have hw := hw.2 c5
      refine lv_iload_n (pc := 23) C.1 C.2.1 dX9_may_23 rfl (lv_at hl 2 rfl) ?_
      refine cl_si (pc := 24) (As := [.int b2]) (rest := []) C h (m_X9_isHour l D t a b2 z1 _ hw) mw_X9_isHour lm_X9_151 md_X9_isHour ⟨by decide, by decide⟩ ⟨Nat.zero_le _, Nat.zero_le _⟩ hl.1 rfl (Nat.le_of_ble_eq_true rfl) dX9_may_24 (fun r7 z6 H locs hw h => ?_)
      rw [hw.1] at h
      have hw := hw.2
      refine lv_if_ne (tgt := 32) (pc := 27) C.1 C.2.1 dX9_may_27 (by decide) (fun c8 => ?_) (fun c8 => ?_)
      · have hw := hw.1 c8
        refine lv_aload_n (pc := 32) C.1 C.2.1 dX9_may_32 rfl (lv_at hl 0 rfl) ?_
        refine lv_iload_n (pc := 33) C.1 C.2.1 dX9_may_33 rfl (lv_at hl 1 rfl) ?_
        refine lv_iload_n (pc := 34) C.1 C.2.1 dX9_may_34 rfl (lv_at hl 2 rfl) ?_
        refine cl_vi (pc := 35) (As := [.int b1, .int b2]) (rest := []) C h (m_X9_mayBegin l D t a b1 b2 z1 _ hw) mw_X9_mayBegin lm_X9_220 md_X9_mayBegin rcM_0 ⟨by decide, by decide⟩ ⟨Nat.zero_le _, Nat.zero_le _⟩ hl.1 rfl (Nat.le_of_ble_eq_true rfl) dX9_may_35 (fun r10 z9 H locs hw h => ?_)
        refine lv_if_eq (tgt := 45) (pc := 38) C.1 C.2.1 dX9_may_38 (by decide) (fun c11 => ?_) (fun c11 => ?_)
        · have hw := hw.1 c11
          refine lv_iconst (v := 0) (pc := 45) C.1 C.2.1 dX9_may_45 (by decide) ?_
          exact rt_i (pc := 46) C hr hlk h hw dX9_may_46
        · have hw := hw.2 c11
          refine lv_iconst (v := 1) (pc := 41) C.1 C.2.1 dX9_may_41 (by decide) ?_
          refine lv_goto (tgt := 46) (pc := 42) C.1 C.2.1 dX9_may_42 (by decide) ?_
          exact rt_i (pc := 46) C hr hlk h hw dX9_may_46
      · have hw := hw.2 c8
        refine lv_iconst (v := -1) (pc := 30) C.1 C.2.1 dX9_may_30 (by decide) ?_
        exact rt_i (pc := 31) C hr hlk h hw dX9_may_31

def wp_X9_put (b1 : Int32) (b2 : Int32) (z : St) (P : Int32 → St → Prop) : Prop :=
  (∀ z1 : St, z1 = wI z 0 ((0 : Int32)) → (wp_X9_isJob b1 z1 (fun r3 => (((¬ r3 = 0) → (vp_in b1 16 ∧ (((¬ (gF z1 11 b1.toNatClampNeg) = ((2 : Int32))) → (wp_X9_mayBegin b1 b2 z1 (fun r7 z6 => (((¬ r7 = 0) → (vp_in b1 16 ∧ (∀ z9 : St, z9 = wR z6 11 (upd (gF z6 11) b1.toNatClampNeg ((1 : Int32))) → (vp_in b1 16 ∧ (∀ z10 : St, z10 = wR z9 12 (upd (gF z9 12) b1.toNatClampNeg b2) → (wp_X9_told ((0 : Int32)) z10 (fun r12 z11 => P r12 z11))))))) ∧ (r7 = 0 → (wp_X9_told ((-6 : Int32)) z6 (fun r14 z13 => P r14 z13))))))) ∧ ((gF z1 11 b1.toNatClampNeg) = ((2 : Int32)) → (wp_X9_told ((-3 : Int32)) z1 (fun r16 z15 => P r16 z15)))))) ∧ (r3 = 0 → (wp_X9_told ((-2 : Int32)) z1 (fun r18 z17 => P r18 z17)))))))
set_option maxHeartbeats 4000000 in
set_option maxRecDepth 100000 in
theorem m_X9_put (l : Launch) (D : va_G) (t : Ty3) (a : Nat → Nat) (b1 : Int32) (b2 : Int32) (z : St) (P : Int32 → St → Prop) (hw : wp_X9_put b1 b2 z P) : CtI l D t yX9_put cX9_put 3 (some .int) 4 (wM t a) (wM t a z) [.ref (a 0), .int b1, .int b2] P := by
  refine ctI_of (by decide) (Nat.le_of_ble_eq_true rfl) ?_
  intro p e s m args below meth c A ls C hr hlk h hl
  have hl : lv_has ls 3 [(0, .ref (a 0)), (1, .int b1), (2, .int b2)] := hl
  unfold wp_X9_put at hw
  refine lv_aload_n (pc := 0) C.1 C.2.1 dX9_put_0 rfl (lv_at hl 0 rfl) ?_
  refine lv_iconst (v := 0) (pc := 1) C.1 C.2.1 dX9_put_1 (by decide) ?_
  refine PM_X9_131_0 (pc := 2) C h dX9_put_2 (fun z1 ez1 H locs h => ?_)
  have hw := hw z1 ez1
  refine lv_aload_n (pc := 5) C.1 C.2.1 dX9_put_5 rfl (lv_at hl 0 rfl) ?_
  refine lv_iload_n (pc := 6) C.1 C.2.1 dX9_put_6 rfl (lv_at hl 1 rfl) ?_
  refine cl_vi (pc := 7) (As := [.int b1]) (rest := []) C h (m_X9_isJob l D t a b1 z1 _ hw) mw_X9_isJob lm_X9_193 md_X9_isJob rcM_0 ⟨by decide, by decide⟩ ⟨Nat.zero_le _, Nat.zero_le _⟩ hl.1 rfl (Nat.le_of_ble_eq_true rfl) dX9_put_7 (fun r3 z2 H locs hw h => ?_)
  rw [hw.1] at h
  have hw := hw.2
  refine lv_if_ne (tgt := 20) (pc := 10) C.1 C.2.1 dX9_put_10 (by decide) (fun c4 => ?_) (fun c4 => ?_)
  · have hw := hw.1 c4
    refine lv_aload_n (pc := 20) C.1 C.2.1 dX9_put_20 rfl (lv_at hl 0 rfl) ?_
    refine GM_X9_48_0 (pc := 21) C h dX9_put_21 ?_
    refine lv_iload_n (pc := 24) C.1 C.2.1 dX9_put_24 rfl (lv_at hl 1 rfl) ?_
    refine ldM_11 (pc := 25) C h hw.1 dX9_put_25 ?_
    have hw := hw.2
    refine lv_iconst (v := 2) (pc := 26) C.1 C.2.1 dX9_put_26 (by decide) ?_
    refine lv_icmp_ne (tgt := 37) (pc := 27) C.1 C.2.1 dX9_put_27 (by decide) (fun c5 => ?_) (fun c5 => ?_)
    · have hw := hw.1 c5
      refine lv_aload_n (pc := 37) C.1 C.2.1 dX9_put_37 rfl (lv_at hl 0 rfl) ?_
      refine lv_iload_n (pc := 38) C.1 C.2.1 dX9_put_38 rfl (lv_at hl 1 rfl) ?_
      refine lv_iload_n (pc := 39) C.1 C.2.1 dX9_put_39 rfl (lv_at hl 2 rfl) ?_
      refine cl_vi (pc := 40) (As := [.int b1, .int b2]) (rest := []) C h (m_X9_mayBegin l D t a b1 b2 z1 _ hw) mw_X9_mayBegin lm_X9_220 md_X9_mayBegin rcM_0 ⟨by decide, by decide⟩ ⟨Nat.zero_le _, Nat.zero_le _⟩ hl.1 rfl (Nat.le_of_ble_eq_true rfl) dX9_put_40 (fun r7 z6 H locs hw h => ?_)
      refine lv_if_ne (tgt := 53) (pc := 43) C.1 C.2.1 dX9_put_43 (by decide) (fun c8 => ?_) (fun c8 => ?_)
      · have hw := hw.1 c8
        refine lv_aload_n (pc := 53) C.1 C.2.1 dX9_put_53 rfl (lv_at hl 0 rfl) ?_
        refine GM_X9_48_0 (pc := 54) C h dX9_put_54 ?_
        refine lv_iload_n (pc := 57) C.1 C.2.1 dX9_put_57 rfl (lv_at hl 1 rfl) ?_
        refine lv_iconst (v := 1) (pc := 58) C.1 C.2.1 dX9_put_58 (by decide) ?_
        refine stM_11 (pc := 59) C h hw.1 dX9_put_59 (fun z9 ez9 H locs h => ?_)
        have hw := hw.2 z9 ez9
        refine lv_aload_n (pc := 60) C.1 C.2.1 dX9_put_60 rfl (lv_at hl 0 rfl) ?_
        refine GM_X9_51_0 (pc := 61) C h dX9_put_61 ?_
        refine lv_iload_n (pc := 64) C.1 C.2.1 dX9_put_64 rfl (lv_at hl 1 rfl) ?_
        refine lv_iload_n (pc := 65) C.1 C.2.1 dX9_put_65 rfl (lv_at hl 2 rfl) ?_
        refine stM_12 (pc := 66) C h hw.1 dX9_put_66 (fun z10 ez10 H locs h => ?_)
        have hw := hw.2 z10 ez10
        refine lv_aload_n (pc := 67) C.1 C.2.1 dX9_put_67 rfl (lv_at hl 0 rfl) ?_
        refine lv_iconst (v := 0) (pc := 68) C.1 C.2.1 dX9_put_68 (by decide) ?_
        refine cl_vi (pc := 69) (As := [.int ((0 : Int32))]) (rest := []) C h (m_X9_told l D t a ((0 : Int32)) z10 _ hw) mw_X9_told lm_X9_162 md_X9_told rcM_0 ⟨by decide, by decide⟩ ⟨Nat.zero_le _, Nat.zero_le _⟩ hl.1 rfl (Nat.le_of_ble_eq_true rfl) dX9_put_69 (fun r12 z11 H locs hw h => ?_)
        exact rt_i (pc := 72) C hr hlk h hw dX9_put_72
      · have hw := hw.2 c8
        refine lv_aload_n (pc := 46) C.1 C.2.1 dX9_put_46 rfl (lv_at hl 0 rfl) ?_
        refine lv_bipush (v := -6) (pc := 47) C.1 C.2.1 dX9_put_47 (by decide) ?_
        refine cl_vi (pc := 49) (As := [.int ((-6 : Int32))]) (rest := []) C h (m_X9_told l D t a ((-6 : Int32)) z6 _ hw) mw_X9_told lm_X9_162 md_X9_told rcM_0 ⟨by decide, by decide⟩ ⟨Nat.zero_le _, Nat.zero_le _⟩ hl.1 rfl (Nat.le_of_ble_eq_true rfl) dX9_put_49 (fun r14 z13 H locs hw h => ?_)
        exact rt_i (pc := 52) C hr hlk h hw dX9_put_52
    · have hw := hw.2 c5
      refine lv_aload_n (pc := 30) C.1 C.2.1 dX9_put_30 rfl (lv_at hl 0 rfl) ?_
      refine lv_bipush (v := -3) (pc := 31) C.1 C.2.1 dX9_put_31 (by decide) ?_
      refine cl_vi (pc := 33) (As := [.int ((-3 : Int32))]) (rest := []) C h (m_X9_told l D t a ((-3 : Int32)) z1 _ hw) mw_X9_told lm_X9_162 md_X9_told rcM_0 ⟨by decide, by decide⟩ ⟨Nat.zero_le _, Nat.zero_le _⟩ hl.1 rfl (Nat.le_of_ble_eq_true rfl) dX9_put_33 (fun r16 z15 H locs hw h => ?_)
      exact rt_i (pc := 36) C hr hlk h hw dX9_put_36
  · have hw := hw.2 c4
    refine lv_aload_n (pc := 13) C.1 C.2.1 dX9_put_13 rfl (lv_at hl 0 rfl) ?_
    refine lv_bipush (v := -2) (pc := 14) C.1 C.2.1 dX9_put_14 (by decide) ?_
    refine cl_vi (pc := 16) (As := [.int ((-2 : Int32))]) (rest := []) C h (m_X9_told l D t a ((-2 : Int32)) z1 _ hw) mw_X9_told lm_X9_162 md_X9_told rcM_0 ⟨by decide, by decide⟩ ⟨Nat.zero_le _, Nat.zero_le _⟩ hl.1 rfl (Nat.le_of_ble_eq_true rfl) dX9_put_16 (fun r18 z17 H locs hw h => ?_)
    exact rt_i (pc := 19) C hr hlk h hw dX9_put_19

def wp_X9_costAt (b1 : Int32) (b2 : Int32) (b3 : Int32) (z : St) (P : Int64 → Prop) : Prop :=
  (∀ K3 : Int64 → Int32 → Prop, (∀ (v1 : Int64) (v2 : Int32), (vp_in b1 16 ∧ ((((gF z 9 b1.toNatClampNeg) ≤ v2) → P v1) ∧ (¬ ((gF z 9 b1.toNatClampNeg) ≤ v2) → (((((168 : Int32)) ≤ (b2 + v2)) → P v1) ∧ (¬ (((168 : Int32)) ≤ (b2 + v2)) → (vp_in ((((4 : Int32)) * b1) + v2) 64 ∧ (wp_X9_priceOf (b2 + v2) b3 z (fun r7 => (∀ x8 : Int64, x8 = v1 + ((Int32.toInt64 (gF z 10 ((((4 : Int32)) * b1) + v2).toNatClampNeg)) * (Int32.toInt64 r7)) → (∀ x9 : Int32, x9 = v2 + (1) → K3 x8 x9)))))))))) → K3 v1 v2) → K3 ((0 : Int64)) ((0 : Int32)))
set_option maxHeartbeats 4000000 in
set_option maxRecDepth 100000 in
theorem m_X9_costAt (l : Launch) (D : va_G) (t : Ty3) (a : Nat → Nat) (b1 : Int32) (b2 : Int32) (b3 : Int32) (z : St) (P : Int64 → Prop) (hw : wp_X9_costAt b1 b2 b3 z P) : CtL l D t yX9_costAt cX9_costAt 7 (some .long) 1 (wM t a) (wM t a z) [.ref (a 0), .int b1, .int b2, .int b3] (fun rr zz => zz = z ∧ P rr) := by
  refine ctL_of (by decide) (Nat.le_of_ble_eq_true rfl) ?_
  intro p e s m args below meth c A ls C hr hlk h hl
  have hl : lv_has ls 7 [(0, .ref (a 0)), (1, .int b1), (2, .int b2), (3, .int b3)] := hl
  unfold wp_X9_costAt at hw
  refine lv_lconst (v := 0) (pc := 0) C.1 C.2.1 dX9_costAt_0 (by decide) ?_
  refine lv_lstore (lv' := [(4, .long ((0 : Int64))), (0, .ref (a 0)), (1, .int b1), (2, .int b2), (3, .int b3)]) (pc := 1) C.1 C.2.1 dX9_costAt_1 hl (by decide) rfl (fun ls hl => ?_)
  refine lv_iconst (v := 0) (pc := 3) C.1 C.2.1 dX9_costAt_3 (by decide) ?_
  have hw := hw (fun (v1 : Int64) (v2 : Int32) => ∀ (H : Heap) (locs : List Loc) (ls : Array Slot), wd D t A s (wM t a z) H locs → lv_has ls 7 [(0, .ref (a 0)), (1, .int b1), (2, .int b2), (3, .int b3), (4, .long v1), (6, .int v2)] → W p l e (rmd 1) s m args below meth c H locs 0 0 (QL D t A (wM t a) (fun rr zz => zz = z ∧ P rr) below args s) (F0 m 6 ls [])) (by
      intro v1 v2 hw H locs ls h hl
      refine lv_iload (pc := 6) C.1 C.2.1 dX9_costAt_6 (lv_at hl 5 rfl) ?_
      refine lv_aload_n (pc := 8) C.1 C.2.1 dX9_costAt_8 rfl (lv_at hl 0 rfl) ?_
      refine GM_X9_42_0 (pc := 9) C h dX9_costAt_9 ?_
      refine lv_iload_n (pc := 12) C.1 C.2.1 dX9_costAt_12 rfl (lv_at hl 1 rfl) ?_
      refine ldM_9 (pc := 13) C h hw.1 dX9_costAt_13 ?_
      have hw := hw.2
      refine lv_icmp_ge (tgt := 61) (pc := 14) C.1 C.2.1 dX9_costAt_14 (by decide) (fun c4 => ?_) (fun c4 => ?_)
      · have hw := hw.1 c4
        refine lv_lload (pc := 61) C.1 C.2.1 dX9_costAt_61 (lv_at hl 4 rfl) ?_
        exact rt_l (pc := 63) C hr hlk h ⟨rfl, hw⟩ dX9_costAt_63
      · have hw := hw.2 c4
        refine lv_iload_n (pc := 17) C.1 C.2.1 dX9_costAt_17 rfl (lv_at hl 2 rfl) ?_
        refine lv_iload (pc := 18) C.1 C.2.1 dX9_costAt_18 (lv_at hl 5 rfl) ?_
        refine lv_iadd (pc := 20) C.1 C.2.1 dX9_costAt_20 ?_
        refine lv_sipush (v := 168) (pc := 21) C.1 C.2.1 dX9_costAt_21 (by decide) ?_
        refine lv_icmp_ge (tgt := 61) (pc := 24) C.1 C.2.1 dX9_costAt_24 (by decide) (fun c5 => ?_) (fun c5 => ?_)
        · have hw := hw.1 c5
          refine lv_lload (pc := 61) C.1 C.2.1 dX9_costAt_61 (lv_at hl 4 rfl) ?_
          exact rt_l (pc := 63) C hr hlk h ⟨rfl, hw⟩ dX9_costAt_63
        · have hw := hw.2 c5
          refine lv_lload (pc := 27) C.1 C.2.1 dX9_costAt_27 (lv_at hl 4 rfl) ?_
          refine lv_aload_n (pc := 29) C.1 C.2.1 dX9_costAt_29 rfl (lv_at hl 0 rfl) ?_
          refine GM_X9_45_0 (pc := 30) C h dX9_costAt_30 ?_
          refine lv_iconst (v := 4) (pc := 33) C.1 C.2.1 dX9_costAt_33 (by decide) ?_
          refine lv_iload_n (pc := 34) C.1 C.2.1 dX9_costAt_34 rfl (lv_at hl 1 rfl) ?_
          refine lv_imul (pc := 35) C.1 C.2.1 dX9_costAt_35 ?_
          refine lv_iload (pc := 36) C.1 C.2.1 dX9_costAt_36 (lv_at hl 5 rfl) ?_
          refine lv_iadd (pc := 38) C.1 C.2.1 dX9_costAt_38 ?_
          refine ldM_10 (pc := 39) C h hw.1 dX9_costAt_39 ?_
          have hw := hw.2
          refine lv_i2l (pc := 40) C.1 C.2.1 dX9_costAt_40 rfl ?_
          refine lv_aload_n (pc := 41) C.1 C.2.1 dX9_costAt_41 rfl (lv_at hl 0 rfl) ?_
          refine lv_iload_n (pc := 42) C.1 C.2.1 dX9_costAt_42 rfl (lv_at hl 2 rfl) ?_
          refine lv_iload (pc := 43) C.1 C.2.1 dX9_costAt_43 (lv_at hl 5 rfl) ?_
          refine lv_iadd (pc := 45) C.1 C.2.1 dX9_costAt_45 ?_
          refine lv_iload_n (pc := 46) C.1 C.2.1 dX9_costAt_46 rfl (lv_at hl 3 rfl) ?_
          refine cl_vi (pc := 47) (As := [.int (b2 + v2), .int b3]) (rest := [.long (Int32.toInt64 (gF z 10 ((((4 : Int32)) * b1) + v2).toNatClampNeg)), .long v1]) C h (m_X9_priceOf l D t a (b2 + v2) b3 z _ hw) mw_X9_priceOf lm_X9_176 md_X9_priceOf rcM_0 ⟨by decide, by decide⟩ ⟨Nat.zero_le _, Nat.zero_le _⟩ hl.1 rfl (Nat.le_of_ble_eq_true rfl) dX9_costAt_47 (fun r7 z6 H locs hw h => ?_)
          rw [hw.1] at h
          have hw := hw.2
          refine lv_i2l (pc := 50) C.1 C.2.1 dX9_costAt_50 rfl ?_
          refine lv_lmul (pc := 51) C.1 C.2.1 dX9_costAt_51 ?_
          refine lv_ladd (pc := 52) C.1 C.2.1 dX9_costAt_52 ?_
          refine lv_topl (fun x8 ex8 => ?_)
          have hw := hw x8 ex8
          refine lv_lstore (lv' := [(4, .long x8), (0, .ref (a 0)), (1, .int b1), (2, .int b2), (3, .int b3), (6, .int v2)]) (pc := 53) C.1 C.2.1 dX9_costAt_53 hl (by decide) rfl (fun ls hl => ?_)
          obtain ⟨x9, ex9⟩ : ∃ y : Int32, y = v2 + (1) := ⟨_, rfl⟩
          have hw := hw x9 ex9
          refine lv_iinc (v := x9) (lv' := [(6, .int x9), (4, .long x8), (0, .ref (a 0)), (1, .int b1), (2, .int b2), (3, .int b3)]) (pc := 55) C.1 C.2.1 dX9_costAt_55 hl (k := 5) rfl (by rw [ex9]; rfl) (by decide) rfl (fun ls hl => ?_)
          refine lv_goto (tgt := 6) (pc := 58) C.1 C.2.1 dX9_costAt_58 (by decide) ?_
          exact hw _ _ _ h (lv_sub hl [2, 3, 4, 5, 1, 0] rfl))
  refine lv_istore (lv' := [(6, .int ((0 : Int32))), (4, .long ((0 : Int64))), (0, .ref (a 0)), (1, .int b1), (2, .int b2), (3, .int b3)]) (pc := 4) C.1 C.2.1 dX9_costAt_4 hl (by decide) rfl (fun ls hl => ?_)
  exact hw _ _ _ h (lv_sub hl [2, 3, 4, 5, 1, 0] rfl)

def wp_X9_findLeast (b1 : Int32) (z : St) (P : St → Prop) : Prop :=
  (vp_in b1 6 ∧ (∀ z1 : St, z1 = wL z 22 (vp_updL (gG z 22) b1.toNatClampNeg ((0 : Int64))) → (∀ K3 : Int32 → St → Prop, (∀ (v2 : Int32) (z4 : St), (((v2 < 0) → P z4) ∧ (¬ (v2 < 0) → (vp_in v2 5 ∧ (∀ x6 : Int32, x6 = gF z4 18 v2.toNatClampNeg → (vp_in x6 16 ∧ (∀ K9 : Int64 → Int32 → St → Prop, (∀ (v7 : Int64) (v8 : Int32) (z10 : St), (vp_in x6 16 ∧ ((((gF z10 8 x6.toNatClampNeg) < v8) → (vp_in (v2 + ((1 : Int32))) 6 ∧ (vp_in v2 6 ∧ (∀ z12 : St, z12 = wL z10 22 (vp_updL (gG z10 22) v2.toNatClampNeg (v7 + (gG z10 22 (v2 + ((1 : Int32))).toNatClampNeg))) → (∀ x13 : Int32, x13 = v2 + (-1) → K3 x13 z12))))) ∧ (¬ ((gF z10 8 x6.toNatClampNeg) < v8) → (wp_X9_costAt x6 v8 (gI z10 2) z10 (fun r15 => (vp_in x6 16 ∧ (vp_in (((((24 : Int32)) * v2) + v8) - (gF z10 7 x6.toNatClampNeg)) 120 ∧ (∀ z16 : St, z16 = wL z10 21 (vp_updL (gG z10 21) (((((24 : Int32)) * v2) + v8) - (gF z10 7 x6.toNatClampNeg)).toNatClampNeg r15) → (vp_in x6 16 ∧ (∀ K18 : Int64 → Prop, (∀ (s17 : Int64), (∀ x19 : Int32, x19 = v8 + (1) → K9 s17 x19 z16) → K18 s17) → (∀ K20 : Prop, (K18 r15 → K20) → (((v8 = (gF z16 7 x6.toNatClampNeg)) → K20) ∧ (¬ (v8 = (gF z16 7 x6.toNatClampNeg)) → (((0 ≤ (lg_cmp r15 v7)) → K18 v7) ∧ (¬ (0 ≤ (lg_cmp r15 v7)) → K20))))))))))))))) → K9 v7 v8 z10) → (∀ x23 : Int32, x23 = gF z4 7 x6.toNatClampNeg → K9 ((0 : Int64)) x23 z4))))))) → K3 v2 z4) → (∀ x24 : Int32, x24 = b1 - ((1 : Int32)) → K3 x24 z1))))
set_option maxHeartbeats 4000000 in
set_option maxRecDepth 100000 in
theorem m_X9_findLeast (l : Launch) (D : va_G) (t : Ty3) (a : Nat → Nat) (b1 : Int32) (z : St) (P : St → Prop) (hw : wp_X9_findLeast b1 z P) : CtV l D t yX9_findLeast cX9_findLeast 9 none 2 (wM t a) (wM t a z) [.ref (a 0), .int b1] P := by
  refine ctV_of (by decide) (Nat.le_of_ble_eq_true rfl) ?_
  intro p e s m args below meth c A ls C hr hlk h hl
  have hl : lv_has ls 9 [(0, .ref (a 0)), (1, .int b1)] := hl
  unfold wp_X9_findLeast at hw
  refine lv_aload_n (pc := 0) C.1 C.2.1 dX9_findLeast_0 rfl (lv_at hl 0 rfl) ?_
  refine GM_X9_82_0 (pc := 1) C h dX9_findLeast_1 ?_
  refine lv_iload_n (pc := 4) C.1 C.2.1 dX9_findLeast_4 rfl (lv_at hl 1 rfl) ?_
  refine lv_lconst (v := 0) (pc := 5) C.1 C.2.1 dX9_findLeast_5 (by decide) ?_
  refine stM_22 (pc := 6) C h hw.1 dX9_findLeast_6 (fun z1 ez1 H locs h => ?_)
  have hw := hw.2 z1 ez1
  refine lv_iload_n (pc := 7) C.1 C.2.1 dX9_findLeast_7 rfl (lv_at hl 1 rfl) ?_
  refine lv_iconst (v := 1) (pc := 8) C.1 C.2.1 dX9_findLeast_8 (by decide) ?_
  refine lv_isub (pc := 9) C.1 C.2.1 dX9_findLeast_9 ?_
  have hw := hw (fun (v2 : Int32) (z4 : St) => ∀ (H : Heap) (locs : List Loc) (ls : Array Slot), wd D t A s (wM t a z4) H locs → lv_has ls 9 [(0, .ref (a 0)), (2, .int v2)] → W p l e (rmd 2) s m args below meth c H locs 0 0 (QV D t A (wM t a) P below args s) (F0 m 11 ls [])) (by
      intro v2 z4 hw H locs ls h hl
      refine lv_iload_n (pc := 11) C.1 C.2.1 dX9_findLeast_11 rfl (lv_at hl 1 rfl) ?_
      refine lv_if_lt (tgt := 135) (pc := 12) C.1 C.2.1 dX9_findLeast_12 (by decide) (fun c5 => ?_) (fun c5 => ?_)
      · have hw := hw.1 c5
        exact rt_v (pc := 135) C hr hlk h hw dX9_findLeast_135
      · have hw := hw.2 c5
        refine lv_aload_n (pc := 15) C.1 C.2.1 dX9_findLeast_15 rfl (lv_at hl 0 rfl) ?_
        refine GM_X9_69_0 (pc := 16) C h dX9_findLeast_16 ?_
        refine lv_iload_n (pc := 19) C.1 C.2.1 dX9_findLeast_19 rfl (lv_at hl 1 rfl) ?_
        refine ldM_18 (pc := 20) C h hw.1 dX9_findLeast_20 ?_
        have hw := hw.2
        refine lv_topi (fun x6 ex6 => ?_)
        have hw := hw x6 ex6
        refine lv_istore_n (lv' := [(3, .int x6), (0, .ref (a 0)), (2, .int v2)]) (pc := 21) C.1 C.2.1 dX9_findLeast_21 rfl hl (by decide) rfl (fun ls hl => ?_)
        refine lv_lconst (v := 0) (pc := 22) C.1 C.2.1 dX9_findLeast_22 (by decide) ?_
        refine lv_lstore (lv' := [(4, .long ((0 : Int64))), (3, .int x6), (0, .ref (a 0)), (2, .int v2)]) (pc := 23) C.1 C.2.1 dX9_findLeast_23 hl (by decide) rfl (fun ls hl => ?_)
        refine lv_aload_n (pc := 25) C.1 C.2.1 dX9_findLeast_25 rfl (lv_at hl 2 rfl) ?_
        refine GM_X9_36_0 (pc := 26) C h dX9_findLeast_26 ?_
        refine lv_iload_n (pc := 29) C.1 C.2.1 dX9_findLeast_29 rfl (lv_at hl 1 rfl) ?_
        refine ldM_7 (pc := 30) C h hw.1 dX9_findLeast_30 ?_
        have hw := hw.2
        have hw := hw (fun (v7 : Int64) (v8 : Int32) (z10 : St) => ∀ (H : Heap) (locs : List Loc) (ls : Array Slot), wd D t A s (wM t a z10) H locs → lv_has ls 9 [(0, .ref (a 0)), (2, .int v2), (3, .int x6), (4, .long v7), (6, .int v8)] → W p l e (rmd 2) s m args below meth c H locs 0 0 (QV D t A (wM t a) P below args s) (F0 m 33 ls [])) (by
            intro v7 v8 z10 hw H locs ls h hl
            refine lv_iload (pc := 33) C.1 C.2.1 dX9_findLeast_33 (lv_at hl 4 rfl) ?_
            refine lv_aload_n (pc := 35) C.1 C.2.1 dX9_findLeast_35 rfl (lv_at hl 0 rfl) ?_
            refine GM_X9_39_0 (pc := 36) C h dX9_findLeast_36 ?_
            refine lv_iload_n (pc := 39) C.1 C.2.1 dX9_findLeast_39 rfl (lv_at hl 2 rfl) ?_
            refine ldM_8 (pc := 40) C h hw.1 dX9_findLeast_40 ?_
            have hw := hw.2
            refine lv_icmp_gt (tgt := 112) (pc := 41) C.1 C.2.1 dX9_findLeast_41 (by decide) (fun c11 => ?_) (fun c11 => ?_)
            · have hw := hw.1 c11
              refine lv_aload_n (pc := 112) C.1 C.2.1 dX9_findLeast_112 rfl (lv_at hl 0 rfl) ?_
              refine GM_X9_82_0 (pc := 113) C h dX9_findLeast_113 ?_
              refine lv_iload_n (pc := 116) C.1 C.2.1 dX9_findLeast_116 rfl (lv_at hl 1 rfl) ?_
              refine lv_lload (pc := 117) C.1 C.2.1 dX9_findLeast_117 (lv_at hl 3 rfl) ?_
              refine lv_aload_n (pc := 119) C.1 C.2.1 dX9_findLeast_119 rfl (lv_at hl 0 rfl) ?_
              refine GM_X9_82_0 (pc := 120) C h dX9_findLeast_120 ?_
              refine lv_iload_n (pc := 123) C.1 C.2.1 dX9_findLeast_123 rfl (lv_at hl 1 rfl) ?_
              refine lv_iconst (v := 1) (pc := 124) C.1 C.2.1 dX9_findLeast_124 (by decide) ?_
              refine lv_iadd (pc := 125) C.1 C.2.1 dX9_findLeast_125 ?_
              refine ldM_22 (pc := 126) C h hw.1 dX9_findLeast_126 ?_
              have hw := hw.2
              refine lv_ladd (pc := 127) C.1 C.2.1 dX9_findLeast_127 ?_
              refine stM_22 (pc := 128) C h hw.1 dX9_findLeast_128 (fun z12 ez12 H locs h => ?_)
              have hw := hw.2 z12 ez12
              obtain ⟨x13, ex13⟩ : ∃ y : Int32, y = v2 + (-1) := ⟨_, rfl⟩
              have hw := hw x13 ex13
              refine lv_iinc (v := x13) (lv' := [(2, .int x13), (0, .ref (a 0)), (3, .int x6), (4, .long v7), (6, .int v8)]) (pc := 129) C.1 C.2.1 dX9_findLeast_129 hl (k := 1) rfl (by rw [ex13]; rfl) (by decide) rfl (fun ls hl => ?_)
              refine lv_goto (tgt := 11) (pc := 132) C.1 C.2.1 dX9_findLeast_132 (by decide) ?_
              exact hw _ _ _ h (lv_sub hl [1, 0] rfl)
            · have hw := hw.2 c11
              refine lv_aload_n (pc := 44) C.1 C.2.1 dX9_findLeast_44 rfl (lv_at hl 0 rfl) ?_
              refine lv_iload_n (pc := 45) C.1 C.2.1 dX9_findLeast_45 rfl (lv_at hl 2 rfl) ?_
              refine lv_iload (pc := 46) C.1 C.2.1 dX9_findLeast_46 (lv_at hl 4 rfl) ?_
              refine lv_aload_n (pc := 48) C.1 C.2.1 dX9_findLeast_48 rfl (lv_at hl 0 rfl) ?_
              refine GM_X9_173_0 (pc := 49) C h dX9_findLeast_49 ?_
              refine cl_vl (pc := 52) (As := [.int x6, .int v8, .int (gI z10 2)]) (rest := []) C h (m_X9_costAt l D t a x6 v8 (gI z10 2) z10 _ hw) mw_X9_costAt lm_X9_233 md_X9_costAt rcM_0 ⟨by decide, by decide⟩ ⟨Nat.zero_le _, Nat.zero_le _⟩ hl.1 rfl (Nat.le_of_ble_eq_true rfl) dX9_findLeast_52 (fun r15 z14 H locs hw h => ?_)
              rw [hw.1] at h
              have hw := hw.2
              refine lv_lstore (lv' := [(7, .long r15), (0, .ref (a 0)), (2, .int v2), (3, .int x6), (4, .long v7), (6, .int v8)]) (pc := 55) C.1 C.2.1 dX9_findLeast_55 hl (by decide) rfl (fun ls hl => ?_)
              refine lv_aload_n (pc := 57) C.1 C.2.1 dX9_findLeast_57 rfl (lv_at hl 1 rfl) ?_
              refine GM_X9_78_0 (pc := 58) C h dX9_findLeast_58 ?_
              refine lv_bipush (v := 24) (pc := 61) C.1 C.2.1 dX9_findLeast_61 (by decide) ?_
              refine lv_iload_n (pc := 63) C.1 C.2.1 dX9_findLeast_63 rfl (lv_at hl 2 rfl) ?_
              refine lv_imul (pc := 64) C.1 C.2.1 dX9_findLeast_64 ?_
              refine lv_iload (pc := 65) C.1 C.2.1 dX9_findLeast_65 (lv_at hl 5 rfl) ?_
              refine lv_iadd (pc := 67) C.1 C.2.1 dX9_findLeast_67 ?_
              refine lv_aload_n (pc := 68) C.1 C.2.1 dX9_findLeast_68 rfl (lv_at hl 1 rfl) ?_
              refine GM_X9_36_0 (pc := 69) C h dX9_findLeast_69 ?_
              refine lv_iload_n (pc := 72) C.1 C.2.1 dX9_findLeast_72 rfl (lv_at hl 3 rfl) ?_
              refine ldM_7 (pc := 73) C h hw.1 dX9_findLeast_73 ?_
              have hw := hw.2
              refine lv_isub (pc := 74) C.1 C.2.1 dX9_findLeast_74 ?_
              refine lv_lload (pc := 75) C.1 C.2.1 dX9_findLeast_75 (lv_at hl 0 rfl) ?_
              refine stM_21 (pc := 77) C h hw.1 dX9_findLeast_77 (fun z16 ez16 H locs h => ?_)
              have hw := hw.2 z16 ez16
              refine lv_iload (pc := 78) C.1 C.2.1 dX9_findLeast_78 (lv_at hl 5 rfl) ?_
              refine lv_aload_n (pc := 80) C.1 C.2.1 dX9_findLeast_80 rfl (lv_at hl 1 rfl) ?_
              refine GM_X9_36_0 (pc := 81) C h dX9_findLeast_81 ?_
              refine lv_iload_n (pc := 84) C.1 C.2.1 dX9_findLeast_84 rfl (lv_at hl 3 rfl) ?_
              refine ldM_7 (pc := 85) C h hw.1 dX9_findLeast_85 ?_
              have hw := hw.2
              have hw := hw (fun (s17 : Int64) => ∀ (H : Heap) (locs : List Loc) (ls : Array Slot), wd D t A s (wM t a z16) H locs → lv_has ls 9 [(0, .ref (a 0)), (2, .int v2), (3, .int x6), (6, .int v8)] → W p l e (rmd 2) s m args below meth c H locs 0 0 (QV D t A (wM t a) P below args s) (F0 m 104 ls [.long s17])) (by
                  intro s17 hw H locs ls h hl
                  refine lv_lstore (lv' := [(4, .long s17), (0, .ref (a 0)), (2, .int v2), (3, .int x6), (6, .int v8)]) (pc := 104) C.1 C.2.1 dX9_findLeast_104 hl (by decide) rfl (fun ls hl => ?_)
                  obtain ⟨x19, ex19⟩ : ∃ y : Int32, y = v8 + (1) := ⟨_, rfl⟩
                  have hw := hw x19 ex19
                  refine lv_iinc (v := x19) (lv' := [(6, .int x19), (4, .long s17), (0, .ref (a 0)), (2, .int v2), (3, .int x6)]) (pc := 106) C.1 C.2.1 dX9_findLeast_106 hl (k := 4) rfl (by rw [ex19]; rfl) (by decide) rfl (fun ls hl => ?_)
                  refine lv_goto (tgt := 33) (pc := 109) C.1 C.2.1 dX9_findLeast_109 (by decide) ?_
                  exact hw _ _ _ h (lv_sub hl [2, 3, 4, 1, 0] rfl))
              have hw := hw (∀ (H : Heap) (locs : List Loc) (ls : Array Slot), wd D t A s (wM t a z16) H locs → lv_has ls 9 [(0, .ref (a 0)), (2, .int v2), (3, .int x6), (6, .int v8), (7, .long r15)] → W p l e (rmd 2) s m args below meth c H locs 0 0 (QV D t A (wM t a) P below args s) (F0 m 97 ls [])) (by
                  intro hw H locs ls h hl
                  refine lv_lload (pc := 97) C.1 C.2.1 dX9_findLeast_97 (lv_at hl 4 rfl) ?_
                  refine lv_goto (tgt := 104) (pc := 99) C.1 C.2.1 dX9_findLeast_99 (by decide) ?_
                  exact hw _ _ _ h (lv_sub hl [0, 1, 2, 3] rfl))
              refine lv_icmp_eq (tgt := 97) (pc := 86) C.1 C.2.1 dX9_findLeast_86 (by decide) (fun c21 => ?_) (fun c21 => ?_)
              · have hw := hw.1 c21
                exact hw _ _ _ h (lv_sub hl [1, 2, 3, 5, 0] rfl)
              · have hw := hw.2 c21
                refine lv_lload (pc := 89) C.1 C.2.1 dX9_findLeast_89 (lv_at hl 0 rfl) ?_
                refine lv_lload (pc := 91) C.1 C.2.1 dX9_findLeast_91 (lv_at hl 4 rfl) ?_
                refine W.lcmp (pc := 93) C.1 C.2.1 dX9_findLeast_93 ?_
                refine lv_if_ge (tgt := 102) (pc := 94) C.1 C.2.1 dX9_findLeast_94 (by decide) (fun c22 => ?_) (fun c22 => ?_)
                · have hw := hw.1 c22
                  refine lv_lload (pc := 102) C.1 C.2.1 dX9_findLeast_102 (lv_at hl 4 rfl) ?_
                  exact hw _ _ _ h (lv_sub hl [1, 2, 3, 5] rfl)
                · have hw := hw.2 c22
                  exact hw _ _ _ h (lv_sub hl [1, 2, 3, 5, 0] rfl))
        refine lv_topi (fun x23 ex23 => ?_)
        have hw := hw x23 ex23
        refine lv_istore (lv' := [(6, .int x23), (4, .long ((0 : Int64))), (3, .int x6), (0, .ref (a 0)), (2, .int v2)]) (pc := 31) C.1 C.2.1 dX9_findLeast_31 hl (by decide) rfl (fun ls hl => ?_)
        exact hw _ _ _ h (lv_sub hl [3, 4, 2, 1, 0] rfl))
  refine lv_topi (fun x24 ex24 => ?_)
  have hw := hw x24 ex24
  refine lv_istore_n (lv' := [(2, .int x24), (0, .ref (a 0)), (1, .int b1)]) (pc := 10) C.1 C.2.1 dX9_findLeast_10 rfl hl (by decide) rfl (fun ls hl => ?_)
  exact hw _ _ _ h (lv_sub hl [1, 0] rfl)
