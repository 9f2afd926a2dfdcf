def wp_X9_each  (z : St) (P : Int32 → St → Prop) : Prop :=
  (∀ z1 : St, z1 = wI z 0 ((0 : Int32)) → (∀ K4 : Int32 → Int32 → St → Prop, (∀ (v2 : Int32) (v3 : Int32) (z5 : St), ((((gI z5 12) ≤ v3) → (∀ K9 : Int32 → Int32 → St → Prop, (∀ (v7 : Int32) (v8 : Int32) (z10 : St), ((((gI z10 12) ≤ v8) → P v7 z10) ∧ (¬ ((gI z10 12) ≤ v8) → (vp_in v8 16 ∧ (∀ K14 : Int32 → Int32 → St → Prop, (∀ (v12 : Int32) (v13 : Int32) (z15 : St), (∀ x16 : Int32, x16 = v13 + (1) → K9 v12 x16 z15) → K14 v12 v13 z15) → (((¬ (gF z10 11 v8.toNatClampNeg) = ((2 : Int32))) → (vp_in v8 16 ∧ (∀ K23 : Int32 → Int32 → Int32 → Int64 → Int32 → St → Prop, (∀ (v18 : Int32) (v19 : Int32) (v20 : Int32) (v21 : Int64) (v22 : Int32) (z24 : St), (vp_in v19 16 ∧ ((((gF z24 8 v19.toNatClampNeg) < v22) → (∀ K29 : Int32 → Int32 → Int32 → St → Prop, (∀ (v26 : Int32) (v27 : Int32) (v28 : Int32) (z30 : St), (∀ K34 : Int32 → Int32 → Int32 → St → Prop, (∀ (v31 : Int32) (s32 : Int32) (s33 : Int32) (z35 : St), (∀ x36 : Int32, x36 = s33 + s32 → K14 x36 v31 z35) → K34 v31 s32 s33 z35) → (((0 ≤ v28) → K34 v27 ((0 : Int32)) v26 z30) ∧ (¬ (0 ≤ v28) → K34 v27 ((1 : Int32)) v26 z30))) → K29 v26 v27 v28 z30) → (((v20 < 0) → K29 v18 v19 v20 z24) ∧ (¬ (v20 < 0) → (vp_in v19 16 ∧ (∀ z39 : St, z39 = wR z24 11 (upd (gF z24 11) v19.toNatClampNeg ((1 : Int32))) → (vp_in v19 16 ∧ (∀ z40 : St, z40 = wR z39 12 (upd (gF z39 12) v19.toNatClampNeg v20) → K29 v18 v19 v20 z40)))))))) ∧ (¬ ((gF z24 8 v19.toNatClampNeg) < v22) → (wp_X9_mayBegin v19 v22 z24 (fun r42 z41 => (∀ K48 : Int32 → Int32 → Int32 → Int64 → Int32 → St → Prop, (∀ (v43 : Int32) (v44 : Int32) (v45 : Int32) (v46 : Int64) (v47 : Int32) (z49 : St), (∀ x50 : Int32, x50 = v47 + (1) → K23 v43 v44 v45 v46 x50 z49) → K48 v43 v44 v45 v46 v47 z49) → (((r42 = 0) → K48 v18 v19 v20 v21 v22 z41) ∧ (¬ (r42 = 0) → (wp_X9_costAt v19 v22 (gI z41 2) z41 (fun r53 z52 => (∀ K58 : Int32 → Int32 → Int32 → Int64 → St → Prop, (∀ (v54 : Int32) (v55 : Int32) (v56 : Int32) (v57 : Int64) (z59 : St), K48 v54 v55 v56 v57 v56 z59 → K58 v54 v55 v56 v57 z59) → (((v20 < 0) → K58 v18 v19 v22 r53 z52) ∧ (¬ (v20 < 0) → (((0 ≤ (lg_cmp r53 v21)) → K48 v18 v19 v20 v21 v22 z52) ∧ (¬ (0 ≤ (lg_cmp r53 v21)) → K58 v18 v19 v22 r53 z52))))))))))))))) → K23 v18 v19 v20 v21 v22 z24) → (∀ x62 : Int32, x62 = gF z10 7 v8.toNatClampNeg → K23 v7 v8 ((-1 : Int32)) ((0 : Int64)) x62 z10)))) ∧ ((gF z10 11 v8.toNatClampNeg) = ((2 : Int32)) → K14 v7 v8 z10)))))) → K9 v7 v8 z10) → K9 v2 ((0 : Int32)) z5)) ∧ (¬ ((gI z5 12) ≤ v3) → (vp_in v3 16 ∧ (∀ K67 : Int32 → Int32 → Int32 → Int32 → St → Prop, (∀ (v63 : Int32) (v64 : Int32) (s65 : Int32) (s66 : Int32) (z68 : St), (vp_in s66 16 ∧ (∀ z69 : St, z69 = wR z68 11 (upd (gF z68 11) s66.toNatClampNeg s65) → (∀ x70 : Int32, x70 = v64 + (1) → K4 v63 x70 z69))) → K67 v63 v64 s65 s66 z68) → (((¬ (gF z5 11 v3.toNatClampNeg) = ((2 : Int32))) → K67 v2 v3 ((0 : Int32)) v3 z5) ∧ ((gF z5 11 v3.toNatClampNeg) = ((2 : Int32)) → K67 v2 v3 ((2 : Int32)) v3 z5)))))) → K4 v2 v3 z5) → K4 ((0 : Int32)) ((0 : Int32)) z1))
set_option maxHeartbeats 4000000 in
set_option maxRecDepth 100000 in
theorem m_X9_each (l : Launch) (D : va_G) (t : Ty3) (a : Nat → Nat)  (z : St) (P : Int32 → St → Prop) (hw : wp_X9_each z P) : CtI l D t yX9_each cX9_each 9 (some .int) 4 (wM t a) (wM t a z) [.ref (a 0)] P := by
  refine ctI_of (by decide) (Nat.le_of_ble_eq_true rfl) ?_
  intro p e s m args below meth c A ls C hr hlk h hl
  have hl : lv_has ls 9 [(0, .ref (a 0))] := hl
  unfold wp_X9_each at hw
  refine lv_aload_n (pc := 0) C.1 C.2.1 dX9_each_0 rfl (lv_at hl 0 rfl) ?_
  refine lv_iconst (v := 0) (pc := 1) C.1 C.2.1 dX9_each_1 (by decide) ?_
  refine PM_X9_131_0 (pc := 2) C h dX9_each_2 (fun z1 ez1 H locs h => ?_)
  have hw := hw z1 ez1
  refine lv_iconst (v := 0) (pc := 5) C.1 C.2.1 dX9_each_5 (by decide) ?_
  refine lv_istore_n (lv' := [(1, .int ((0 : Int32))), (0, .ref (a 0))]) (pc := 6) C.1 C.2.1 dX9_each_6 rfl hl (by decide) rfl (fun ls hl => ?_)
  refine lv_iconst (v := 0) (pc := 7) C.1 C.2.1 dX9_each_7 (by decide) ?_
  have hw := hw (fun (v2 : Int32) (v3 : Int32) (z5 : St) => ∀ (H : Heap) (locs : List Loc) (ls : Array Slot), wd D t A s (wM t a z5) H locs → lv_has ls 9 [(0, .ref (a 0)), (1, .int v2), (2, .int v3)] → W p l e (rmd 4) s m args below meth c H locs 0 0 (QI D t A (wM t a) P below args s) (F0 m 9 ls [])) (by
      intro v2 v3 z5 hw H locs ls h hl
      refine lv_iload_n (pc := 9) C.1 C.2.1 dX9_each_9 rfl (lv_at hl 2 rfl) ?_
      refine lv_aload_n (pc := 10) C.1 C.2.1 dX9_each_10 rfl (lv_at hl 0 rfl) ?_
      refine GM_X9_148_0 (pc := 11) C h dX9_each_11 ?_
      refine lv_icmp_ge (tgt := 44) (pc := 14) C.1 C.2.1 dX9_each_14 (by decide) (fun c6 => ?_) (fun c6 => ?_)
      · have hw := hw.1 c6
        refine lv_iconst (v := 0) (pc := 44) C.1 C.2.1 dX9_each_44 (by decide) ?_
        have hw := hw (fun (v7 : Int32) (v8 : Int32) (z10 : St) => ∀ (H : Heap) (locs : List Loc) (ls : Array Slot), wd D t A s (wM t a z10) H locs → lv_has ls 9 [(0, .ref (a 0)), (1, .int v7), (2, .int v8)] → W p l e (rmd 4) s m args below meth c H locs 0 0 (QI D t A (wM t a) P below args s) (F0 m 46 ls [])) (by
            intro v7 v8 z10 hw H locs ls h hl
            refine lv_iload_n (pc := 46) C.1 C.2.1 dX9_each_46 rfl (lv_at hl 2 rfl) ?_
            refine lv_aload_n (pc := 47) C.1 C.2.1 dX9_each_47 rfl (lv_at hl 0 rfl) ?_
            refine GM_X9_148_0 (pc := 48) C h dX9_each_48 ?_
            refine lv_icmp_ge (tgt := 175) (pc := 51) C.1 C.2.1 dX9_each_51 (by decide) (fun c11 => ?_) (fun c11 => ?_)
            · have hw := hw.1 c11
              refine lv_iload_n (pc := 175) C.1 C.2.1 dX9_each_175 rfl (lv_at hl 1 rfl) ?_
              exact rt_i (pc := 176) C hr hlk h hw dX9_each_176
            · have hw := hw.2 c11
              refine lv_aload_n (pc := 54) C.1 C.2.1 dX9_each_54 rfl (lv_at hl 0 rfl) ?_
              refine GM_X9_48_0 (pc := 55) C h dX9_each_55 ?_
              refine lv_iload_n (pc := 58) C.1 C.2.1 dX9_each_58 rfl (lv_at hl 2 rfl) ?_
              refine ldM_11 (pc := 59) C h hw.1 dX9_each_59 ?_
              have hw := hw.2
              refine lv_iconst (v := 2) (pc := 60) C.1 C.2.1 dX9_each_60 (by decide) ?_
              have hw := hw (fun (v12 : Int32) (v13 : Int32) (z15 : St) => ∀ (H : Heap) (locs : List Loc) (ls : Array Slot), wd D t A s (wM t a z15) H locs → lv_has ls 9 [(0, .ref (a 0)), (1, .int v12), (2, .int v13)] → W p l e (rmd 4) s m args below meth c H locs 0 0 (QI D t A (wM t a) P below args s) (F0 m 169 ls [])) (by
                  intro v12 v13 z15 hw H locs ls h hl
                  obtain ⟨x16, ex16⟩ : ∃ y : Int32, y = v13 + (1) := ⟨_, rfl⟩
                  have hw := hw x16 ex16
                  refine lv_iinc (v := x16) (lv' := [(2, .int x16), (0, .ref (a 0)), (1, .int v12)]) (pc := 169) C.1 C.2.1 dX9_each_169 hl (k := 2) rfl (by rw [ex16]; rfl) (by decide) rfl (fun ls hl => ?_)
                  refine lv_goto (tgt := 46) (pc := 172) C.1 C.2.1 dX9_each_172 (by decide) ?_
                  exact hw _ _ _ h (lv_sub hl [1, 2, 0] rfl))
              refine lv_icmp_ne (tgt := 67) (pc := 61) C.1 C.2.1 dX9_each_61 (by decide) (fun c17 => ?_) (fun c17 => ?_)
              · have hw := hw.1 c17
                refine lv_iconst (v := -1) (pc := 67) C.1 C.2.1 dX9_each_67 (by decide) ?_
                refine lv_istore_n (lv' := [(3, .int ((-1 : Int32))), (0, .ref (a 0)), (1, .int v7), (2, .int v8)]) (pc := 68) C.1 C.2.1 dX9_each_68 rfl hl (by decide) rfl (fun ls hl => ?_)
                refine lv_lconst (v := 0) (pc := 69) C.1 C.2.1 dX9_each_69 (by decide) ?_
                refine lv_lstore (lv' := [(4, .long ((0 : Int64))), (3, .int ((-1 : Int32))), (0, .ref (a 0)), (1, .int v7), (2, .int v8)]) (pc := 70) C.1 C.2.1 dX9_each_70 hl (by decide) rfl (fun ls hl => ?_)
                refine lv_aload_n (pc := 72) C.1 C.2.1 dX9_each_72 rfl (lv_at hl 2 rfl) ?_
                refine GM_X9_36_0 (pc := 73) C h dX9_each_73 ?_
                refine lv_iload_n (pc := 76) C.1 C.2.1 dX9_each_76 rfl (lv_at hl 4 rfl) ?_
                refine ldM_7 (pc := 77) C h hw.1 dX9_each_77 ?_
                have hw := hw.2
                have hw := hw (fun (v18 : Int32) (v19 : Int32) (v20 : Int32) (v21 : Int64) (v22 : Int32) (z24 : St) => ∀ (H : Heap) (locs : List Loc) (ls : Array Slot), wd D t A s (wM t a z24) H locs → lv_has ls 9 [(0, .ref (a 0)), (1, .int v18), (2, .int v19), (3, .int v20), (4, .long v21), (6, .int v22)] → W p l e (rmd 4) s m args below meth c H locs 0 0 (QI D t A (wM t a) P below args s) (F0 m 80 ls [])) (by
                    intro v18 v19 v20 v21 v22 z24 hw H locs ls h hl
                    refine lv_iload (pc := 80) C.1 C.2.1 dX9_each_80 (lv_at hl 5 rfl) ?_
                    refine lv_aload_n (pc := 82) C.1 C.2.1 dX9_each_82 rfl (lv_at hl 0 rfl) ?_
                    refine GM_X9_39_0 (pc := 83) C h dX9_each_83 ?_
                    refine lv_iload_n (pc := 86) C.1 C.2.1 dX9_each_86 rfl (lv_at hl 2 rfl) ?_
                    refine ldM_8 (pc := 87) C h hw.1 dX9_each_87 ?_
                    have hw := hw.2
                    refine lv_icmp_gt (tgt := 139) (pc := 88) C.1 C.2.1 dX9_each_88 (by decide) (fun c25 => ?_) (fun c25 => ?_)
                    · have hw := hw.1 c25
                      refine lv_iload_n (pc := 139) C.1 C.2.1 dX9_each_139 rfl (lv_at hl 3 rfl) ?_
                      have hw := hw (fun (v26 : Int32) (v27 : Int32) (v28 : Int32) (z30 : St) => ∀ (H : Heap) (locs : List Loc) (ls : Array Slot), wd D t A s (wM t a z30) H locs → lv_has ls 9 [(0, .ref (a 0)), (1, .int v26), (2, .int v27), (3, .int v28)] → W p l e (rmd 4) s m args below meth c H locs 0 0 (QI D t A (wM t a) P below args s) (F0 m 157 ls [])) (by
                          intro v26 v27 v28 z30 hw H locs ls h hl
                          refine lv_iload_n (pc := 157) C.1 C.2.1 dX9_each_157 rfl (lv_at hl 1 rfl) ?_
                          refine lv_iload_n (pc := 158) C.1 C.2.1 dX9_each_158 rfl (lv_at hl 3 rfl) ?_
                          have hw := hw (fun (v31 : Int32) (s32 : Int32) (s33 : Int32) (z35 : St) => ∀ (H : Heap) (locs : List Loc) (ls : Array Slot), wd D t A s (wM t a z35) H locs → lv_has ls 9 [(0, .ref (a 0)), (2, .int v31)] → W p l e (rmd 4) s m args below meth c H locs 0 0 (QI D t A (wM t a) P below args s) (F0 m 167 ls [.int s32, .int s33])) (by
                              intro v31 s32 s33 z35 hw H locs ls h hl
                              refine lv_iadd (pc := 167) C.1 C.2.1 dX9_each_167 ?_
                              refine lv_topi (fun x36 ex36 => ?_)
                              have hw := hw x36 ex36
                              refine lv_istore_n (lv' := [(1, .int x36), (0, .ref (a 0)), (2, .int v31)]) (pc := 168) C.1 C.2.1 dX9_each_168 rfl hl (by decide) rfl (fun ls hl => ?_)
                              exact hw _ _ _ h (lv_sub hl [1, 0, 2] rfl))
                          refine lv_if_ge (tgt := 166) (pc := 159) C.1 C.2.1 dX9_each_159 (by decide) (fun c37 => ?_) (fun c37 => ?_)
                          · have hw := hw.1 c37
                            refine lv_iconst (v := 0) (pc := 166) C.1 C.2.1 dX9_each_166 (by decide) ?_
                            exact hw _ _ _ h (lv_sub hl [0, 2] rfl)
                          · have hw := hw.2 c37
                            refine lv_iconst (v := 1) (pc := 162) C.1 C.2.1 dX9_each_162 (by decide) ?_
                            refine lv_goto (tgt := 167) (pc := 163) C.1 C.2.1 dX9_each_163 (by decide) ?_
                            exact hw _ _ _ h (lv_sub hl [0, 2] rfl))
                      refine lv_if_lt (tgt := 157) (pc := 140) C.1 C.2.1 dX9_each_140 (by decide) (fun c38 => ?_) (fun c38 => ?_)
                      · have hw := hw.1 c38
                        exact hw _ _ _ h (lv_sub hl [0, 1, 2, 3] rfl)
                      · have hw := hw.2 c38
                        refine lv_aload_n (pc := 143) C.1 C.2.1 dX9_each_143 rfl (lv_at hl 0 rfl) ?_
                        refine GM_X9_48_0 (pc := 144) C h dX9_each_144 ?_
                        refine lv_iload_n (pc := 147) C.1 C.2.1 dX9_each_147 rfl (lv_at hl 2 rfl) ?_
                        refine lv_iconst (v := 1) (pc := 148) C.1 C.2.1 dX9_each_148 (by decide) ?_
                        refine stM_11 (pc := 149) C h hw.1 dX9_each_149 (fun z39 ez39 H locs h => ?_)
                        have hw := hw.2 z39 ez39
                        refine lv_aload_n (pc := 150) C.1 C.2.1 dX9_each_150 rfl (lv_at hl 0 rfl) ?_
                        refine GM_X9_51_0 (pc := 151) C h dX9_each_151 ?_
                        refine lv_iload_n (pc := 154) C.1 C.2.1 dX9_each_154 rfl (lv_at hl 2 rfl) ?_
                        refine lv_iload_n (pc := 155) C.1 C.2.1 dX9_each_155 rfl (lv_at hl 3 rfl) ?_
                        refine stM_12 (pc := 156) C h hw.1 dX9_each_156 (fun z40 ez40 H locs h => ?_)
                        have hw := hw.2 z40 ez40
                        exact hw _ _ _ h (lv_sub hl [0, 1, 2, 3] rfl)
                    · have hw := hw.2 c25
                      refine lv_aload_n (pc := 91) C.1 C.2.1 dX9_each_91 rfl (lv_at hl 0 rfl) ?_
                      refine lv_iload_n (pc := 92) C.1 C.2.1 dX9_each_92 rfl (lv_at hl 2 rfl) ?_
                      refine lv_iload (pc := 93) C.1 C.2.1 dX9_each_93 (lv_at hl 5 rfl) ?_
                      refine cl_vi (pc := 95) (As := [.int v19, .int v22]) (rest := []) C h (m_X9_mayBegin l D t a v19 v22 z24 _ hw) mw_X9_mayBegin lm_X9_220 md_X9_mayBegin rcM_0 ⟨by decide, by decide⟩ ⟨Nat.zero_le _, Nat.zero_le _⟩ hl.1 rfl (Nat.le_of_ble_eq_true rfl) dX9_each_95 (fun r42 z41 H locs hw h => ?_)
                      have hw := hw (fun (v43 : Int32) (v44 : Int32) (v45 : Int32) (v46 : Int64) (v47 : Int32) (z49 : St) => ∀ (H : Heap) (locs : List Loc) (ls : Array Slot), wd D t A s (wM t a z49) H locs → lv_has ls 9 [(0, .ref (a 0)), (1, .int v43), (2, .int v44), (3, .int v45), (4, .long v46), (6, .int v47)] → W p l e (rmd 4) s m args below meth c H locs 0 0 (QI D t A (wM t a) P below args s) (F0 m 133 ls [])) (by
                          intro v43 v44 v45 v46 v47 z49 hw H locs ls h hl
                          obtain ⟨x50, ex50⟩ : ∃ y : Int32, y = v47 + (1) := ⟨_, rfl⟩
                          have hw := hw x50 ex50
                          refine lv_iinc (v := x50) (lv' := [(6, .int x50), (0, .ref (a 0)), (1, .int v43), (2, .int v44), (3, .int v45), (4, .long v46)]) (pc := 133) C.1 C.2.1 dX9_each_133 hl (k := 5) rfl (by rw [ex50]; rfl) (by decide) rfl (fun ls hl => ?_)
                          refine lv_goto (tgt := 80) (pc := 136) C.1 C.2.1 dX9_each_136 (by decide) ?_
                          exact hw _ _ _ h (lv_sub hl [1, 2, 3, 4, 5, 0] rfl))
                      refine lv_if_eq (tgt := 133) (pc := 98) C.1 C.2.1 dX9_each_98 (by decide) (fun c51 => ?_) (fun c51 => ?_)
                      · have hw := hw.1 c51
                        exact hw _ _ _ h (lv_sub hl [0, 1, 2, 3, 4, 5] rfl)
                      · have hw := hw.2 c51
                        refine lv_aload_n (pc := 101) C.1 C.2.1 dX9_each_101 rfl (lv_at hl 0 rfl) ?_
                        refine lv_iload_n (pc := 102) C.1 C.2.1 dX9_each_102 rfl (lv_at hl 2 rfl) ?_
                        refine lv_iload (pc := 103) C.1 C.2.1 dX9_each_103 (lv_at hl 5 rfl) ?_
                        refine lv_aload_n (pc := 105) C.1 C.2.1 dX9_each_105 rfl (lv_at hl 0 rfl) ?_
                        refine GM_X9_173_0 (pc := 106) C h dX9_each_106 ?_
                        refine cl_vl (pc := 109) (As := [.int v19, .int v22, .int (gI z41 2)]) (rest := []) C h (m_X9_costAt l D t a v19 v22 (gI z41 2) z41 _ hw) mw_X9_costAt lm_X9_233 md_X9_costAt rcM_0 ⟨by decide, by decide⟩ ⟨Nat.zero_le _, Nat.zero_le _⟩ hl.1 rfl (Nat.le_of_ble_eq_true rfl) dX9_each_109 (fun r53 z52 H locs hw h => ?_)
                        refine lv_lstore (lv' := [(7, .long r53), (0, .ref (a 0)), (1, .int v18), (2, .int v19), (3, .int v20), (4, .long v21), (6, .int v22)]) (pc := 112) C.1 C.2.1 dX9_each_112 hl (by decide) rfl (fun ls hl => ?_)
                        refine lv_iload_n (pc := 114) C.1 C.2.1 dX9_each_114 rfl (lv_at hl 4 rfl) ?_
                        have hw := hw (fun (v54 : Int32) (v55 : Int32) (v56 : Int32) (v57 : Int64) (z59 : St) => ∀ (H : Heap) (locs : List Loc) (ls : Array Slot), wd D t A s (wM t a z59) H locs → lv_has ls 9 [(0, .ref (a 0)), (1, .int v54), (2, .int v55), (6, .int v56), (7, .long v57)] → W p l e (rmd 4) s m args below meth c H locs 0 0 (QI D t A (wM t a) P below args s) (F0 m 126 ls [])) (by
                            intro v54 v55 v56 v57 z59 hw H locs ls h hl
                            refine lv_iload (pc := 126) C.1 C.2.1 dX9_each_126 (lv_at hl 3 rfl) ?_
                            refine lv_istore_n (lv' := [(3, .int v56), (0, .ref (a 0)), (1, .int v54), (2, .int v55), (6, .int v56), (7, .long v57)]) (pc := 128) C.1 C.2.1 dX9_each_128 rfl hl (by decide) rfl (fun ls hl => ?_)
                            refine lv_lload (pc := 129) C.1 C.2.1 dX9_each_129 (lv_at hl 5 rfl) ?_
                            refine lv_lstore (lv' := [(4, .long v57), (3, .int v56), (0, .ref (a 0)), (1, .int v54), (2, .int v55), (6, .int v56), (7, .long v57)]) (pc := 131) C.1 C.2.1 dX9_each_131 hl (by decide) rfl (fun ls hl => ?_)
                            exact hw _ _ _ h (lv_sub hl [2, 3, 4, 1, 0, 5] rfl))
                        refine lv_if_lt (tgt := 126) (pc := 115) C.1 C.2.1 dX9_each_115 (by decide) (fun c60 => ?_) (fun c60 => ?_)
                        · have hw := hw.1 c60
                          exact hw _ _ _ h (lv_sub hl [1, 2, 3, 6, 0] rfl)
                        · have hw := hw.2 c60
                          refine lv_lload (pc := 118) C.1 C.2.1 dX9_each_118 (lv_at hl 0 rfl) ?_
                          refine lv_lload (pc := 120) C.1 C.2.1 dX9_each_120 (lv_at hl 5 rfl) ?_
                          refine W.lcmp (pc := 122) C.1 C.2.1 dX9_each_122 ?_
                          refine lv_if_ge (tgt := 133) (pc := 123) C.1 C.2.1 dX9_each_123 (by decide) (fun c61 => ?_) (fun c61 => ?_)
                          · have hw := hw.1 c61
                            exact hw _ _ _ h (lv_sub hl [1, 2, 3, 4, 5, 6] rfl)
                          · have hw := hw.2 c61
                            exact hw _ _ _ h (lv_sub hl [1, 2, 3, 6, 0] rfl))
                refine lv_topi (fun x62 ex62 => ?_)
                have hw := hw x62 ex62
                refine lv_istore (lv' := [(6, .int x62), (4, .long ((0 : Int64))), (3, .int ((-1 : Int32))), (0, .ref (a 0)), (1, .int v7), (2, .int v8)]) (pc := 78) C.1 C.2.1 dX9_each_78 hl (by decide) rfl (fun ls hl => ?_)
                exact hw _ _ _ h (lv_sub hl [3, 4, 5, 2, 1, 0] rfl)
              · have hw := hw.2 c17
                refine lv_goto (tgt := 169) (pc := 64) C.1 C.2.1 dX9_each_64 (by decide) ?_
                exact hw _ _ _ h (lv_sub hl [0, 1, 2] rfl))
        refine lv_istore_n (lv' := [(2, .int ((0 : Int32))), (0, .ref (a 0)), (1, .int v2)]) (pc := 45) C.1 C.2.1 dX9_each_45 rfl hl (by decide) rfl (fun ls hl => ?_)
        exact hw _ _ _ h (lv_sub hl [1, 2, 0] rfl)
      · have hw := hw.2 c6
        refine lv_aload_n (pc := 17) C.1 C.2.1 dX9_each_17 rfl (lv_at hl 0 rfl) ?_
        refine GM_X9_48_0 (pc := 18) C h dX9_each_18 ?_
        refine lv_iload_n (pc := 21) C.1 C.2.1 dX9_each_21 rfl (lv_at hl 2 rfl) ?_
        refine lv_aload_n (pc := 22) C.1 C.2.1 dX9_each_22 rfl (lv_at hl 0 rfl) ?_
        refine GM_X9_48_0 (pc := 23) C h dX9_each_23 ?_
        refine lv_iload_n (pc := 26) C.1 C.2.1 dX9_each_26 rfl (lv_at hl 2 rfl) ?_
        refine ldM_11 (pc := 27) C h hw.1 dX9_each_27 ?_
        have hw := hw.2
        refine lv_iconst (v := 2) (pc := 28) C.1 C.2.1 dX9_each_28 (by decide) ?_
        have hw := hw (fun (v63 : Int32) (v64 : Int32) (s65 : Int32) (s66 : Int32) (z68 : St) => ∀ (H : Heap) (locs : List Loc) (ls : Array Slot), wd D t A s (wM t a z68) H locs → lv_has ls 9 [(0, .ref (a 0)), (1, .int v63), (2, .int v64)] → W p l e (rmd 4) s m args below meth c H locs 0 0 (QI D t A (wM t a) P below args s) (F0 m 37 ls [.int s65, .int s66, .ref (a 11)])) (by
            intro v63 v64 s65 s66 z68 hw H locs ls h hl
            refine stM_11 (pc := 37) C h hw.1 dX9_each_37 (fun z69 ez69 H locs h => ?_)
            have hw := hw.2 z69 ez69
            obtain ⟨x70, ex70⟩ : ∃ y : Int32, y = v64 + (1) := ⟨_, rfl⟩
            have hw := hw x70 ex70
            refine lv_iinc (v := x70) (lv' := [(2, .int x70), (0, .ref (a 0)), (1, .int v63)]) (pc := 38) C.1 C.2.1 dX9_each_38 hl (k := 2) rfl (by rw [ex70]; rfl) (by decide) rfl (fun ls hl => ?_)
            refine lv_goto (tgt := 9) (pc := 41) C.1 C.2.1 dX9_each_41 (by decide) ?_
            exact hw _ _ _ h (lv_sub hl [1, 2, 0] rfl))
        refine lv_icmp_ne (tgt := 36) (pc := 29) C.1 C.2.1 dX9_each_29 (by decide) (fun c71 => ?_) (fun c71 => ?_)
        · have hw := hw.1 c71
          refine lv_iconst (v := 0) (pc := 36) C.1 C.2.1 dX9_each_36 (by decide) ?_
          exact hw _ _ _ h (lv_sub hl [0, 1, 2] rfl)
        · have hw := hw.2 c71
          refine lv_iconst (v := 2) (pc := 32) C.1 C.2.1 dX9_each_32 (by decide) ?_
          refine lv_goto (tgt := 37) (pc := 33) C.1 C.2.1 dX9_each_33 (by decide) ?_
          exact hw _ _ _ h (lv_sub hl [0, 1, 2] rfl))
  refine lv_istore_n (lv' := [(2, .int ((0 : Int32))), (1, .int ((0 : Int32))), (0, .ref (a 0))]) (pc := 8) C.1 C.2.1 dX9_each_8 rfl hl (by decide) rfl (fun ls hl => ?_)
  exact hw _ _ _ h (lv_sub hl [2, 1, 0] rfl)

def wp_X9_four (b1 : Int32) (z : St) (P : St → Prop) : Prop :=
  (∀ K2 : Int32 → St → Prop, (∀ (v1 : Int32) (z3 : St), (((v1 < 0) → P z3) ∧ (¬ (v1 < 0) → (vp_in (gI z3 36) 300 ∧ (∀ z5 : St, z5 = wR z3 25 (upd (gF z3 25) (gI z3 36).toNatClampNeg ((b1 >>> (v1 &&& 31)) &&& ((255 : Int32)))) → (∀ z6 : St, z6 = wI z5 36 ((gI z5 36) + ((1 : Int32))) → (∀ x7 : Int32, x7 = v1 + (-8) → K2 x7 z6)))))) → K2 v1 z3) → K2 ((24 : Int32)) z)
set_option maxHeartbeats 4000000 in
set_option maxRecDepth 100000 in
theorem m_X9_four (l : Launch) (D : va_G) (t : Ty3) (a : Nat → Nat) (b1 : Int32) (z : St) (P : St → Prop) (hw : wp_X9_four b1 z P) : CtV l D t yX9_four cX9_four 3 none 0 (wM t a) (wM t a z) [.ref (a 0), .int b1] P := by
  refine ctV_of (by decide) (Nat.le_of_ble_eq_true rfl) ?_
  intro p e s m args below meth c A ls C hr hlk h hl
  have hl : lv_has ls 3 [(0, .ref (a 0)), (1, .int b1)] := hl
  unfold wp_X9_four at hw
  refine lv_bipush (v := 24) (pc := 0) C.1 C.2.1 dX9_four_0 (by decide) ?_
  have hw := hw (fun (v1 : Int32) (z3 : St) => ∀ (H : Heap) (locs : List Loc) (ls : Array Slot), wd D t A s (wM t a z3) H locs → lv_has ls 3 [(0, .ref (a 0)), (1, .int b1), (2, .int v1)] → W p l e (rmd 0) s m args below meth c H locs 0 0 (QV D t A (wM t a) P below args s) (F0 m 3 ls [])) (by
      intro v1 z3 hw H locs ls h hl
      refine lv_iload_n (pc := 3) C.1 C.2.1 dX9_four_3 rfl (lv_at hl 2 rfl) ?_
      refine lv_if_lt (tgt := 39) (pc := 4) C.1 C.2.1 dX9_four_4 (by decide) (fun c4 => ?_) (fun c4 => ?_)
      · have hw := hw.1 c4
        exact rt_v (pc := 39) C hr hlk h hw dX9_four_39
      · have hw := hw.2 c4
        refine lv_aload_n (pc := 7) C.1 C.2.1 dX9_four_7 rfl (lv_at hl 0 rfl) ?_
        refine GM_X9_91_0 (pc := 8) C h dX9_four_8 ?_
        refine lv_aload_n (pc := 11) C.1 C.2.1 dX9_four_11 rfl (lv_at hl 0 rfl) ?_
        refine GM_X9_243_0 (pc := 12) C h dX9_four_12 ?_
        refine lv_iload_n (pc := 15) C.1 C.2.1 dX9_four_15 rfl (lv_at hl 1 rfl) ?_
        refine lv_iload_n (pc := 16) C.1 C.2.1 dX9_four_16 rfl (lv_at hl 2 rfl) ?_
        refine lv_ishr (pc := 17) C.1 C.2.1 dX9_four_17 ?_
        refine lv_sipush (v := 255) (pc := 18) C.1 C.2.1 dX9_four_18 (by decide) ?_
        refine lv_iand (pc := 21) C.1 C.2.1 dX9_four_21 ?_
        refine stM_25 (pc := 22) C h hw.1 dX9_four_22 (fun z5 ez5 H locs h => ?_)
        have hw := hw.2 z5 ez5
        refine lv_aload_n (pc := 23) C.1 C.2.1 dX9_four_23 rfl (lv_at hl 0 rfl) ?_
        refine lv_dup (pc := 24) C.1 C.2.1 dX9_four_24 rfl ?_
        refine GM_X9_243_0 (pc := 25) C h dX9_four_25 ?_
        refine lv_iconst (v := 1) (pc := 28) C.1 C.2.1 dX9_four_28 (by decide) ?_
        refine lv_iadd (pc := 29) C.1 C.2.1 dX9_four_29 ?_
        refine PM_X9_243_0 (pc := 30) C h dX9_four_30 (fun z6 ez6 H locs h => ?_)
        have hw := hw z6 ez6
        obtain ⟨x7, ex7⟩ : ∃ y : Int32, y = v1 + (-8) := ⟨_, rfl⟩
        have hw := hw x7 ex7
        refine lv_iinc (v := x7) (lv' := [(2, .int x7), (0, .ref (a 0)), (1, .int b1)]) (pc := 33) C.1 C.2.1 dX9_four_33 hl (k := 2) rfl (by rw [ex7]; rfl) (by decide) rfl (fun ls hl => ?_)
        refine lv_goto (tgt := 3) (pc := 36) C.1 C.2.1 dX9_four_36 (by decide) ?_
        exact hw _ _ _ h (lv_sub hl [1, 2, 0] rfl))
  refine lv_istore_n (lv' := [(2, .int ((24 : Int32))), (0, .ref (a 0)), (1, .int b1)]) (pc := 2) C.1 C.2.1 dX9_four_2 rfl hl (by decide) rfl (fun ls hl => ?_)
  exact hw _ _ _ h (lv_sub hl [1, 2, 0] rfl)

def wp_X9_feed (b1 : Int32) (b2 : Int32) (b3 : Int32) (b4 : Int32) (b5 : Int32) (z : St) (P : Int32 → St → Prop) : Prop :=
  (∀ z1 : St, z1 = wI z 0 ((0 : Int32)) → (((((gI z1 36) + ((20 : Int32))) ≤ ((300 : Int32))) → (wp_X9_four b1 z1 (fun z3 => (wp_X9_four b2 z3 (fun z5 => (wp_X9_four b3 z5 (fun z7 => (wp_X9_four b4 z7 (fun z9 => (wp_X9_four b5 z9 (fun z11 => P (gI z11 36) z11))))))))))) ∧ (¬ (((gI z1 36) + ((20 : Int32))) ≤ ((300 : Int32))) → P ((-1 : Int32)) z1)))
set_option maxHeartbeats 4000000 in
set_option maxRecDepth 100000 in
theorem m_X9_feed (l : Launch) (D : va_G) (t : Ty3) (a : Nat → Nat) (b1 : Int32) (b2 : Int32) (b3 : Int32) (b4 : Int32) (b5 : Int32) (z : St) (P : Int32 → St → Prop) (hw : wp_X9_feed b1 b2 b3 b4 b5 z P) : CtI l D t yX9_feed cX9_feed 6 (some .int) 1 (wM t a) (wM t a z) [.ref (a 0), .int b1, .int b2, .int b3, .int b4, .int b5] P := by
  refine ctI_of (by decide) (Nat.le_of_ble_eq_true rfl) ?_
  intro p e s m args below meth c A ls C hr hlk h hl
  have hl : lv_has ls 6 [(0, .ref (a 0)), (1, .int b1), (2, .int b2), (3, .int b3), (4, .int b4), (5, .int b5)] := hl
  unfold wp_X9_feed at hw
  refine lv_aload_n (pc := 0) C.1 C.2.1 dX9_feed_0 rfl (lv_at hl 0 rfl) ?_
  refine lv_iconst (v := 0) (pc := 1) C.1 C.2.1 dX9_feed_1 (by decide) ?_
  refine PM_X9_131_0 (pc := 2) C h dX9_feed_2 (fun z1 ez1 H locs h => ?_)
  have hw := hw z1 ez1
  refine lv_aload_n (pc := 5) C.1 C.2.1 dX9_feed_5 rfl (lv_at hl 0 rfl) ?_
  refine GM_X9_243_0 (pc := 6) C h dX9_feed_6 ?_
  refine lv_bipush (v := 20) (pc := 9) C.1 C.2.1 dX9_feed_9 (by decide) ?_
  refine lv_iadd (pc := 11) C.1 C.2.1 dX9_feed_11 ?_
  refine lv_sipush (v := 300) (pc := 12) C.1 C.2.1 dX9_feed_12 (by decide) ?_
  refine lv_icmp_le (tgt := 20) (pc := 15) C.1 C.2.1 dX9_feed_15 (by decide) (fun c2 => ?_) (fun c2 => ?_)
  · have hw := hw.1 c2
    refine lv_aload_n (pc := 20) C.1 C.2.1 dX9_feed_20 rfl (lv_at hl 0 rfl) ?_
    refine lv_iload_n (pc := 21) C.1 C.2.1 dX9_feed_21 rfl (lv_at hl 1 rfl) ?_
    refine cl_vv (pc := 22) (As := [.int b1]) (rest := []) C h (m_X9_four l D t a b1 z1 _ hw) mw_X9_four lm_X9_246 md_X9_four rcM_0 ⟨by decide, by decide⟩ ⟨Nat.zero_le _, Nat.zero_le _⟩ hl.1 rfl (Nat.le_of_ble_eq_true rfl) dX9_feed_22 (fun z3 H locs hw h => ?_)
    refine lv_aload_n (pc := 25) C.1 C.2.1 dX9_feed_25 rfl (lv_at hl 0 rfl) ?_
    refine lv_iload_n (pc := 26) C.1 C.2.1 dX9_feed_26 rfl (lv_at hl 2 rfl) ?_
    refine cl_vv (pc := 27) (As := [.int b2]) (rest := []) C h (m_X9_four l D t a b2 z3 _ hw) mw_X9_four lm_X9_246 md_X9_four rcM_0 ⟨by decide, by decide⟩ ⟨Nat.zero_le _, Nat.zero_le _⟩ hl.1 rfl (Nat.le_of_ble_eq_true rfl) dX9_feed_27 (fun z5 H locs hw h => ?_)
    refine lv_aload_n (pc := 30) C.1 C.2.1 dX9_feed_30 rfl (lv_at hl 0 rfl) ?_
    refine lv_iload_n (pc := 31) C.1 C.2.1 dX9_feed_31 rfl (lv_at hl 3 rfl) ?_
    refine cl_vv (pc := 32) (As := [.int b3]) (rest := []) C h (m_X9_four l D t a b3 z5 _ hw) mw_X9_four lm_X9_246 md_X9_four rcM_0 ⟨by decide, by decide⟩ ⟨Nat.zero_le _, Nat.zero_le _⟩ hl.1 rfl (Nat.le_of_ble_eq_true rfl) dX9_feed_32 (fun z7 H locs hw h => ?_)
    refine lv_aload_n (pc := 35) C.1 C.2.1 dX9_feed_35 rfl (lv_at hl 0 rfl) ?_
    refine lv_iload (pc := 36) C.1 C.2.1 dX9_feed_36 (lv_at hl 4 rfl) ?_
    refine cl_vv (pc := 38) (As := [.int b4]) (rest := []) C h (m_X9_four l D t a b4 z7 _ hw) mw_X9_four lm_X9_246 md_X9_four rcM_0 ⟨by decide, by decide⟩ ⟨Nat.zero_le _, Nat.zero_le _⟩ hl.1 rfl (Nat.le_of_ble_eq_true rfl) dX9_feed_38 (fun z9 H locs hw h => ?_)
    refine lv_aload_n (pc := 41) C.1 C.2.1 dX9_feed_41 rfl (lv_at hl 0 rfl) ?_
    refine lv_iload (pc := 42) C.1 C.2.1 dX9_feed_42 (lv_at hl 5 rfl) ?_
    refine cl_vv (pc := 44) (As := [.int b5]) (rest := []) C h (m_X9_four l D t a b5 z9 _ hw) mw_X9_four lm_X9_246 md_X9_four rcM_0 ⟨by decide, by decide⟩ ⟨Nat.zero_le _, Nat.zero_le _⟩ hl.1 rfl (Nat.le_of_ble_eq_true rfl) dX9_feed_44 (fun z11 H locs hw h => ?_)
    refine lv_aload_n (pc := 47) C.1 C.2.1 dX9_feed_47 rfl (lv_at hl 0 rfl) ?_
    refine GM_X9_243_0 (pc := 48) C h dX9_feed_48 ?_
    exact rt_i (pc := 51) C hr hlk h hw dX9_feed_51
  · have hw := hw.2 c2
    refine lv_iconst (v := -1) (pc := 18) C.1 C.2.1 dX9_feed_18 (by decide) ?_
    exact rt_i (pc := 19) C hr hlk h hw dX9_feed_19

def wp_X9_end (b1 : Int32) (z : St) (P : Int32 → St → Prop) : Prop :=
  (∀ z1 : St, z1 = wI z 0 ((0 : Int32)) → (((b1 < 0) → P ((-1 : Int32)) z1) ∧ (¬ (b1 < 0) → (((b1 ≤ (gI z1 36)) → (∀ z4 : St, z4 = wI z1 36 b1 → P b1 z4)) ∧ (¬ (b1 ≤ (gI z1 36)) → P ((-1 : Int32)) z1)))))
set_option maxHeartbeats 4000000 in
set_option maxRecDepth 100000 in
theorem m_X9_end (l : Launch) (D : va_G) (t : Ty3) (a : Nat → Nat) (b1 : Int32) (z : St) (P : Int32 → St → Prop) (hw : wp_X9_end b1 z P) : CtI l D t yX9_end cX9_end 2 (some .int) 0 (wM t a) (wM t a z) [.ref (a 0), .int b1] P := by
  refine ctI_of (by decide) (Nat.le_of_ble_eq_true rfl) ?_
  intro p e s m args below meth c A ls C hr hlk h hl
  have hl : lv_has ls 2 [(0, .ref (a 0)), (1, .int b1)] := hl
  unfold wp_X9_end at hw
  refine lv_aload_n (pc := 0) C.1 C.2.1 dX9_end_0 rfl (lv_at hl 0 rfl) ?_
  refine lv_iconst (v := 0) (pc := 1) C.1 C.2.1 dX9_end_1 (by decide) ?_
  refine PM_X9_131_0 (pc := 2) C h dX9_end_2 (fun z1 ez1 H locs h => ?_)
  have hw := hw z1 ez1
  refine lv_iload_n (pc := 5) C.1 C.2.1 dX9_end_5 rfl (lv_at hl 1 rfl) ?_
  refine lv_if_lt (tgt := 17) (pc := 6) C.1 C.2.1 dX9_end_6 (by decide) (fun c2 => ?_) (fun c2 => ?_)
  · have hw := hw.1 c2
    refine lv_iconst (v := -1) (pc := 17) C.1 C.2.1 dX9_end_17 (by decide) ?_
    exact rt_i (pc := 18) C hr hlk h hw dX9_end_18
  · have hw := hw.2 c2
    refine lv_iload_n (pc := 9) C.1 C.2.1 dX9_end_9 rfl (lv_at hl 1 rfl) ?_
    refine lv_aload_n (pc := 10) C.1 C.2.1 dX9_end_10 rfl (lv_at hl 0 rfl) ?_
    refine GM_X9_243_0 (pc := 11) C h dX9_end_11 ?_
    refine lv_icmp_le (tgt := 19) (pc := 14) C.1 C.2.1 dX9_end_14 (by decide) (fun c3 => ?_) (fun c3 => ?_)
    · have hw := hw.1 c3
      refine lv_aload_n (pc := 19) C.1 C.2.1 dX9_end_19 rfl (lv_at hl 0 rfl) ?_
      refine lv_iload_n (pc := 20) C.1 C.2.1 dX9_end_20 rfl (lv_at hl 1 rfl) ?_
      refine PM_X9_243_0 (pc := 21) C h dX9_end_21 (fun z4 ez4 H locs h => ?_)
      have hw := hw z4 ez4
      refine lv_iload_n (pc := 24) C.1 C.2.1 dX9_end_24 rfl (lv_at hl 1 rfl) ?_
      exact rt_i (pc := 25) C hr hlk h hw dX9_end_25
    · have hw := hw.2 c3
      refine lv_iconst (v := -1) (pc := 17) C.1 C.2.1 dX9_end_17 (by decide) ?_
      exact rt_i (pc := 18) C hr hlk h hw dX9_end_18

def wp_X9_isDigit (b1 : Int32) (z : St) (P : Int32 → St → Prop) : Prop :=
  (((b1 < ((48 : Int32))) → P ((0 : Int32)) z) ∧ (¬ (b1 < ((48 : Int32))) → (((((57 : Int32)) < b1) → P ((0 : Int32)) z) ∧ (¬ (((57 : Int32)) < b1) → P ((1 : Int32)) z))))
set_option maxHeartbeats 4000000 in
set_option maxRecDepth 100000 in
theorem m_X9_isDigit (l : Launch) (D : va_G) (t : Ty3) (a : Nat → Nat) (b1 : Int32) (z : St) (P : Int32 → St → Prop) (hw : wp_X9_isDigit b1 z P) : CtI l D t yX9_isDigit cX9_isDigit 1 (some .boolean) 0 (wM t a) (wM t a z) [.int b1] P := by
  refine ctI_of (by decide) (Nat.le_of_ble_eq_true rfl) ?_
  intro p e s m args below meth c A ls C hr hlk h hl
  have hl : lv_has ls 1 [(0, .int b1)] := hl
  unfold wp_X9_isDigit at hw
  refine lv_iload_n (pc := 0) C.1 C.2.1 dX9_isDigit_0 rfl (lv_at hl 0 rfl) ?_
  refine lv_bipush (v := 48) (pc := 1) C.1 C.2.1 dX9_isDigit_1 (by decide) ?_
  refine lv_icmp_lt (tgt := 16) (pc := 3) C.1 C.2.1 dX9_isDigit_3 (by decide) (fun c1 => ?_) (fun c1 => ?_)
  · have hw := hw.1 c1
    refine lv_iconst (v := 0) (pc := 16) C.1 C.2.1 dX9_isDigit_16 (by decide) ?_
    exact rt_z (pc := 17) C hr hlk h (Or.inl rfl) hw dX9_isDigit_17
  · have hw := hw.2 c1
    refine lv_iload_n (pc := 6) C.1 C.2.1 dX9_isDigit_6 rfl (lv_at hl 0 rfl) ?_
    refine lv_bipush (v := 57) (pc := 7) C.1 C.2.1 dX9_isDigit_7 (by decide) ?_
    refine lv_icmp_gt (tgt := 16) (pc := 9) C.1 C.2.1 dX9_isDigit_9 (by decide) (fun c2 => ?_) (fun c2 => ?_)
    · have hw := hw.1 c2
      refine lv_iconst (v := 0) (pc := 16) C.1 C.2.1 dX9_isDigit_16 (by decide) ?_
      exact rt_z (pc := 17) C hr hlk h (Or.inl rfl) hw dX9_isDigit_17
    · have hw := hw.2 c2
      refine lv_iconst (v := 1) (pc := 12) C.1 C.2.1 dX9_isDigit_12 (by decide) ?_
      refine lv_goto (tgt := 17) (pc := 13) C.1 C.2.1 dX9_isDigit_13 (by decide) ?_
      exact rt_z (pc := 17) C hr hlk h (Or.inr rfl) hw dX9_isDigit_17

def wp_X9_isSmall (b1 : Int32) (z : St) (P : Int32 → St → Prop) : Prop :=
  (((b1 < ((97 : Int32))) → P ((0 : Int32)) z) ∧ (¬ (b1 < ((97 : Int32))) → (((((122 : Int32)) < b1) → P ((0 : Int32)) z) ∧ (¬ (((122 : Int32)) < b1) → P ((1 : Int32)) z))))
set_option maxHeartbeats 4000000 in
set_option maxRecDepth 100000 in
theorem m_X9_isSmall (l : Launch) (D : va_G) (t : Ty3) (a : Nat → Nat) (b1 : Int32) (z : St) (P : Int32 → St → Prop) (hw : wp_X9_isSmall b1 z P) : CtI l D t yX9_isSmall cX9_isSmall 1 (some .boolean) 0 (wM t a) (wM t a z) [.int b1] P := by
  refine ctI_of (by decide) (Nat.le_of_ble_eq_true rfl) ?_
  intro p e s m args below meth c A ls C hr hlk h hl
  have hl : lv_has ls 1 [(0, .int b1)] := hl
  unfold wp_X9_isSmall at hw
  refine lv_iload_n (pc := 0) C.1 C.2.1 dX9_isSmall_0 rfl (lv_at hl 0 rfl) ?_
  refine lv_bipush (v := 97) (pc := 1) C.1 C.2.1 dX9_isSmall_1 (by decide) ?_
  refine lv_icmp_lt (tgt := 16) (pc := 3) C.1 C.2.1 dX9_isSmall_3 (by decide) (fun c1 => ?_) (fun c1 => ?_)
  · have hw := hw.1 c1
    refine lv_iconst (v := 0) (pc := 16) C.1 C.2.1 dX9_isSmall_16 (by decide) ?_
    exact rt_z (pc := 17) C hr hlk h (Or.inl rfl) hw dX9_isSmall_17
  · have hw := hw.2 c1
    refine lv_iload_n (pc := 6) C.1 C.2.1 dX9_isSmall_6 rfl (lv_at hl 0 rfl) ?_
    refine lv_bipush (v := 122) (pc := 7) C.1 C.2.1 dX9_isSmall_7 (by decide) ?_
    refine lv_icmp_gt (tgt := 16) (pc := 9) C.1 C.2.1 dX9_isSmall_9 (by decide) (fun c2 => ?_) (fun c2 => ?_)
    · have hw := hw.1 c2
      refine lv_iconst (v := 0) (pc := 16) C.1 C.2.1 dX9_isSmall_16 (by decide) ?_
      exact rt_z (pc := 17) C hr hlk h (Or.inl rfl) hw dX9_isSmall_17
    · have hw := hw.2 c2
      refine lv_iconst (v := 1) (pc := 12) C.1 C.2.1 dX9_isSmall_12 (by decide) ?_
      refine lv_goto (tgt := 17) (pc := 13) C.1 C.2.1 dX9_isSmall_13 (by decide) ?_
      exact rt_z (pc := 17) C hr hlk h (Or.inr rfl) hw dX9_isSmall_17

def wp_X9_next  (z : St) (P : St → Prop) : Prop :=
  (∀ K1 : St → Prop, (∀ (z2 : St), (∀ K3 : St → Prop, (∀ (z4 : St), (∀ z5 : St, z5 = wI z4 38 (gI z4 37) → (∀ z6 : St, z6 = wJ z5 40 ((0 : Int64)) → (∀ K8 : Int32 → St → Prop, (∀ (s7 : Int32) (z9 : St), (∀ z10 : St, z10 = wI z9 39 s7 → (∀ K11 : St → Prop, (∀ (z12 : St), (∀ K13 : St → Prop, (∀ (z14 : St), (((¬ (gI z14 39) = ((2 : Int32))) → P z14) ∧ ((gI z14 39) = ((2 : Int32)) → ((((gI z14 36) ≤ (gI z14 38)) → P z14) ∧ (¬ ((gI z14 36) ≤ (gI z14 38)) → (vp_in (gI z14 38) 300 ∧ (wp_X9_isDigit (gF z14 25 (gI z14 38).toNatClampNeg) z14 (fun r18 z17 => (((r18 = 0) → P z17) ∧ (¬ (r18 = 0) → (∀ K21 : Int64 → St → Prop, (∀ (s20 : Int64) (z22 : St), (∀ z23 : St, z23 = wJ z22 40 s20 → (∀ z24 : St, z24 = wI z23 38 ((gI z23 38) + ((1 : Int32))) → K13 z24)) → K21 s20 z22) → ((((lg_cmp (gJ z17 40) ((10000 : Int64))) ≤ 0) → (vp_in (gI z17 38) 300 ∧ K21 ((((gJ z17 40) * ((10 : Int64))) + (Int32.toInt64 (gF z17 25 (gI z17 38).toNatClampNeg))) - ((48 : Int64))) z17)) ∧ (¬ ((lg_cmp (gJ z17 40) ((10000 : Int64))) ≤ 0) → K21 (gJ z17 40) z17)))))))))))) → K13 z14) → (((¬ (gI z12 39) = ((1 : Int32))) → K13 z12) ∧ ((gI z12 39) = ((1 : Int32)) → ((((gI z12 36) ≤ (gI z12 38)) → K13 z12) ∧ (¬ ((gI z12 36) ≤ (gI z12 38)) → (vp_in (gI z12 38) 300 ∧ (wp_X9_isSmall (gF z12 25 (gI z12 38).toNatClampNeg) z12 (fun r29 z28 => (((r29 = 0) → K13 z28) ∧ (¬ (r29 = 0) → (∀ K32 : Int64 → St → Prop, (∀ (s31 : Int64) (z33 : St), (∀ z34 : St, z34 = wJ z33 40 s31 → (∀ z35 : St, z35 = wI z34 38 ((gI z34 38) + ((1 : Int32))) → K11 z35)) → K32 s31 z33) → (((((7 : Int32)) ≤ ((gI z28 38) - (gI z28 37))) → K32 ((-1 : Int64)) z28) ∧ (¬ (((7 : Int32)) ≤ ((gI z28 38) - (gI z28 37))) → (vp_in (gI z28 38) 300 ∧ K32 ((((gJ z28 40) * ((32 : Int64))) + (Int32.toInt64 (gF z28 25 (gI z28 38).toNatClampNeg))) - ((96 : Int64))) z28)))))))))))))) → K11 z12) → (((¬ (gI z10 39) = ((3 : Int32))) → K11 z10) ∧ ((gI z10 39) = ((3 : Int32)) → (vp_in (gI z10 37) 300 ∧ (∀ z38 : St, z38 = wJ z10 40 (Int32.toInt64 (gF z10 25 (gI z10 37).toNatClampNeg)) → (∀ z39 : St, z39 = wI z38 38 ((gI z38 38) + ((1 : Int32))) → K11 z39))))))) → K8 s7 z9) → (((¬ (gI z6 37) = (gI z6 36)) → (vp_in (gI z6 37) 300 ∧ (wp_X9_isSmall (gF z6 25 (gI z6 37).toNatClampNeg) z6 (fun r42 z41 => (((r42 = 0) → (vp_in (gI z41 37) 300 ∧ (wp_X9_isDigit (gF z41 25 (gI z41 37).toNatClampNeg) z41 (fun r45 z44 => (((r45 = 0) → K8 ((3 : Int32)) z44) ∧ (¬ (r45 = 0) → K8 ((2 : Int32)) z44)))))) ∧ (¬ (r42 = 0) → K8 ((1 : Int32)) z41)))))) ∧ ((gI z6 37) = (gI z6 36) → K8 ((0 : Int32)) z6))))) → K3 z4) → ((((gI z2 36) ≤ (gI z2 37)) → K3 z2) ∧ (¬ ((gI z2 36) ≤ (gI z2 37)) → (vp_in (gI z2 37) 300 ∧ (((¬ (gF z2 25 (gI z2 37).toNatClampNeg) = ((32 : Int32))) → K3 z2) ∧ ((gF z2 25 (gI z2 37).toNatClampNeg) = ((32 : Int32)) → (∀ z49 : St, z49 = wI z2 37 ((gI z2 37) + ((1 : Int32))) → K1 z49))))))) → K1 z2) → (∀ z50 : St, z50 = wI z 37 (gI z 38) → K1 z50))
set_option maxHeartbeats 4000000 in
set_option maxRecDepth 100000 in
theorem m_X9_next (l : Launch) (D : va_G) (t : Ty3) (a : Nat → Nat)  (z : St) (P : St → Prop) (hw : wp_X9_next z P) : CtV l D t yX9_next cX9_next 1 none 1 (wM t a) (wM t a z) [.ref (a 0)] P := by
  refine ctV_of (by decide) (Nat.le_of_ble_eq_true rfl) ?_
  intro p e s m args below meth c A ls C hr hlk h hl
  have hl : lv_has ls 1 [(0, .ref (a 0))] := hl
  unfold wp_X9_next at hw
  refine lv_aload_n (pc := 0) C.1 C.2.1 dX9_next_0 rfl (lv_at hl 0 rfl) ?_
  refine lv_aload_n (pc := 1) C.1 C.2.1 dX9_next_1 rfl (lv_at hl 0 rfl) ?_
  refine GM_X9_249_0 (pc := 2) C h dX9_next_2 ?_
  have hw := hw (fun (z2 : St) => ∀ (H : Heap) (locs : List Loc) (ls : Array Slot), wd D t A s (wM t a z2) H locs → lv_has ls 1 [(0, .ref (a 0))] → W p l e (rmd 1) s m args below meth c H locs 0 0 (QV D t A (wM t a) P below args s) (F0 m 8 ls [])) (by
      intro z2 hw H locs ls h hl
      refine lv_aload_n (pc := 8) C.1 C.2.1 dX9_next_8 rfl (lv_at hl 0 rfl) ?_
      refine GM_X9_252_0 (pc := 9) C h dX9_next_9 ?_
      refine lv_aload_n (pc := 12) C.1 C.2.1 dX9_next_12 rfl (lv_at hl 0 rfl) ?_
      refine GM_X9_243_0 (pc := 13) C h dX9_next_13 ?_
      have hw := hw (fun (z4 : St) => ∀ (H : Heap) (locs : List Loc) (ls : Array Slot), wd D t A s (wM t a z4) H locs → lv_has ls 1 [(0, .ref (a 0))] → W p l e (rmd 1) s m args below meth c H locs 0 0 (QV D t A (wM t a) P below args s) (F0 m 46 ls [])) (by
          intro z4 hw H locs ls h hl
          refine lv_aload_n (pc := 46) C.1 C.2.1 dX9_next_46 rfl (lv_at hl 0 rfl) ?_
          refine lv_aload_n (pc := 47) C.1 C.2.1 dX9_next_47 rfl (lv_at hl 0 rfl) ?_
          refine GM_X9_252_0 (pc := 48) C h dX9_next_48 ?_
          refine PM_X9_249_0 (pc := 51) C h dX9_next_51 (fun z5 ez5 H locs h => ?_)
          have hw := hw z5 ez5
          refine lv_aload_n (pc := 54) C.1 C.2.1 dX9_next_54 rfl (lv_at hl 0 rfl) ?_
          refine lv_lconst (v := 0) (pc := 55) C.1 C.2.1 dX9_next_55 (by decide) ?_
          refine PM_X9_255_0 (pc := 56) C h dX9_next_56 (fun z6 ez6 H locs h => ?_)
          have hw := hw z6 ez6
          refine lv_aload_n (pc := 59) C.1 C.2.1 dX9_next_59 rfl (lv_at hl 0 rfl) ?_
          refine lv_aload_n (pc := 60) C.1 C.2.1 dX9_next_60 rfl (lv_at hl 0 rfl) ?_
          refine GM_X9_252_0 (pc := 61) C h dX9_next_61 ?_
          refine lv_aload_n (pc := 64) C.1 C.2.1 dX9_next_64 rfl (lv_at hl 0 rfl) ?_
          refine GM_X9_243_0 (pc := 65) C h dX9_next_65 ?_
          have hw := hw (fun (s7 : Int32) (z9 : St) => ∀ (H : Heap) (locs : List Loc) (ls : Array Slot), wd D t A s (wM t a z9) H locs → lv_has ls 1 [(0, .ref (a 0))] → W p l e (rmd 1) s m args below meth c H locs 0 0 (QV D t A (wM t a) P below args s) (F0 m 114 ls [.int s7, .ref (a 0)])) (by
              intro s7 z9 hw H locs ls h hl
              refine PM_X9_265_0 (pc := 114) C h dX9_next_114 (fun z10 ez10 H locs h => ?_)
              have hw := hw z10 ez10
              refine lv_aload_n (pc := 117) C.1 C.2.1 dX9_next_117 rfl (lv_at hl 0 rfl) ?_
              refine GM_X9_265_0 (pc := 118) C h dX9_next_118 ?_
              refine lv_iconst (v := 3) (pc := 121) C.1 C.2.1 dX9_next_121 (by decide) ?_
              have hw := hw (fun (z12 : St) => ∀ (H : Heap) (locs : List Loc) (ls : Array Slot), wd D t A s (wM t a z12) H locs → lv_has ls 1 [(0, .ref (a 0))] → W p l e (rmd 1) s m args below meth c H locs 0 0 (QV D t A (wM t a) P below args s) (F0 m 149 ls [])) (by
                  intro z12 hw H locs ls h hl
                  refine lv_aload_n (pc := 149) C.1 C.2.1 dX9_next_149 rfl (lv_at hl 0 rfl) ?_
                  refine GM_X9_265_0 (pc := 150) C h dX9_next_150 ?_
                  refine lv_iconst (v := 1) (pc := 153) C.1 C.2.1 dX9_next_153 (by decide) ?_
                  have hw := hw (fun (z14 : St) => ∀ (H : Heap) (locs : List Loc) (ls : Array Slot), wd D t A s (wM t a z14) H locs → lv_has ls 1 [(0, .ref (a 0))] → W p l e (rmd 1) s m args below meth c H locs 0 0 (QV D t A (wM t a) P below args s) (F0 m 243 ls [])) (by
                      intro z14 hw H locs ls h hl
                      refine lv_aload_n (pc := 243) C.1 C.2.1 dX9_next_243 rfl (lv_at hl 0 rfl) ?_
                      refine GM_X9_265_0 (pc := 244) C h dX9_next_244 ?_
                      refine lv_iconst (v := 2) (pc := 247) C.1 C.2.1 dX9_next_247 (by decide) ?_
                      refine lv_icmp_ne (tgt := 335) (pc := 248) C.1 C.2.1 dX9_next_248 (by decide) (fun c15 => ?_) (fun c15 => ?_)
                      · have hw := hw.1 c15
                        exact rt_v (pc := 335) C hr hlk h hw dX9_next_335
                      · have hw := hw.2 c15
                        refine lv_aload_n (pc := 251) C.1 C.2.1 dX9_next_251 rfl (lv_at hl 0 rfl) ?_
                        refine GM_X9_249_0 (pc := 252) C h dX9_next_252 ?_
                        refine lv_aload_n (pc := 255) C.1 C.2.1 dX9_next_255 rfl (lv_at hl 0 rfl) ?_
                        refine GM_X9_243_0 (pc := 256) C h dX9_next_256 ?_
                        refine lv_icmp_ge (tgt := 335) (pc := 259) C.1 C.2.1 dX9_next_259 (by decide) (fun c16 => ?_) (fun c16 => ?_)
                        · have hw := hw.1 c16
                          exact rt_v (pc := 335) C hr hlk h hw dX9_next_335
                        · have hw := hw.2 c16
                          refine lv_aload_n (pc := 262) C.1 C.2.1 dX9_next_262 rfl (lv_at hl 0 rfl) ?_
                          refine GM_X9_91_0 (pc := 263) C h dX9_next_263 ?_
                          refine lv_aload_n (pc := 266) C.1 C.2.1 dX9_next_266 rfl (lv_at hl 0 rfl) ?_
                          refine GM_X9_249_0 (pc := 267) C h dX9_next_267 ?_
                          refine ldM_25 (pc := 270) C h hw.1 dX9_next_270 ?_
                          have hw := hw.2
                          refine cl_si (pc := 271) (As := [.int (gF z14 25 (gI z14 38).toNatClampNeg)]) (rest := []) C h (m_X9_isDigit l D t a (gF z14 25 (gI z14 38).toNatClampNeg) z14 _ hw) mw_X9_isDigit lm_X9_262 md_X9_isDigit ⟨by decide, by decide⟩ ⟨Nat.zero_le _, Nat.zero_le _⟩ hl.1 rfl (Nat.le_of_ble_eq_true rfl) dX9_next_271 (fun r18 z17 H locs hw h => ?_)
                          refine lv_if_eq (tgt := 335) (pc := 274) C.1 C.2.1 dX9_next_274 (by decide) (fun c19 => ?_) (fun c19 => ?_)
                          · have hw := hw.1 c19
                            exact rt_v (pc := 335) C hr hlk h hw dX9_next_335
                          · have hw := hw.2 c19
                            refine lv_aload_n (pc := 277) C.1 C.2.1 dX9_next_277 rfl (lv_at hl 0 rfl) ?_
                            refine lv_aload_n (pc := 278) C.1 C.2.1 dX9_next_278 rfl (lv_at hl 0 rfl) ?_
                            refine GM_X9_255_0 (pc := 279) C h dX9_next_279 ?_
                            refine lv_ldc2 (pc := 282) C.1 C.2.1 C.2.2.2.1 (C.2.2.2.2 _ lc_X9_157) dX9_next_282 ?_
                            refine W.lcmp (pc := 285) C.1 C.2.1 dX9_next_285 ?_
                            have hw := hw (fun (s20 : Int64) (z22 : St) => ∀ (H : Heap) (locs : List Loc) (ls : Array Slot), wd D t A s (wM t a z22) H locs → lv_has ls 1 [(0, .ref (a 0))] → W p l e (rmd 1) s m args below meth c H locs 0 0 (QV D t A (wM t a) P below args s) (F0 m 319 ls [.long s20, .ref (a 0)])) (by
                                intro s20 z22 hw H locs ls h hl
                                refine PM_X9_255_0 (pc := 319) C h dX9_next_319 (fun z23 ez23 H locs h => ?_)
                                have hw := hw z23 ez23
                                refine lv_aload_n (pc := 322) C.1 C.2.1 dX9_next_322 rfl (lv_at hl 0 rfl) ?_
                                refine lv_dup (pc := 323) C.1 C.2.1 dX9_next_323 rfl ?_
                                refine GM_X9_249_0 (pc := 324) C h dX9_next_324 ?_
                                refine lv_iconst (v := 1) (pc := 327) C.1 C.2.1 dX9_next_327 (by decide) ?_
                                refine lv_iadd (pc := 328) C.1 C.2.1 dX9_next_328 ?_
                                refine PM_X9_249_0 (pc := 329) C h dX9_next_329 (fun z24 ez24 H locs h => ?_)
                                have hw := hw z24 ez24
                                refine lv_goto (tgt := 243) (pc := 332) C.1 C.2.1 dX9_next_332 (by decide) ?_
                                exact hw _ _ _ h (lv_sub hl [0] rfl))
                            refine lv_if_le (tgt := 296) (pc := 286) C.1 C.2.1 dX9_next_286 (by decide) (fun c25 => ?_) (fun c25 => ?_)
                            · have hw := hw.1 c25
                              refine lv_aload_n (pc := 296) C.1 C.2.1 dX9_next_296 rfl (lv_at hl 0 rfl) ?_
                              refine GM_X9_255_0 (pc := 297) C h dX9_next_297 ?_
                              refine lv_ldc2 (pc := 300) C.1 C.2.1 C.2.2.2.1 (C.2.2.2.2 _ lc_X9_196) dX9_next_300 ?_
                              refine lv_lmul (pc := 303) C.1 C.2.1 dX9_next_303 ?_
                              refine lv_aload_n (pc := 304) C.1 C.2.1 dX9_next_304 rfl (lv_at hl 0 rfl) ?_
                              refine GM_X9_91_0 (pc := 305) C h dX9_next_305 ?_
                              refine lv_aload_n (pc := 308) C.1 C.2.1 dX9_next_308 rfl (lv_at hl 0 rfl) ?_
                              refine GM_X9_249_0 (pc := 309) C h dX9_next_309 ?_
                              refine ldM_25 (pc := 312) C h hw.1 dX9_next_312 ?_
                              have hw := hw.2
                              refine lv_i2l (pc := 313) C.1 C.2.1 dX9_next_313 rfl ?_
                              refine lv_ladd (pc := 314) C.1 C.2.1 dX9_next_314 ?_
                              refine lv_ldc2 (pc := 315) C.1 C.2.1 C.2.2.2.1 (C.2.2.2.2 _ lc_X9_241) dX9_next_315 ?_
                              refine lv_lsub (pc := 318) C.1 C.2.1 dX9_next_318 ?_
                              exact hw _ _ _ h (lv_sub hl [0] rfl)
                            · have hw := hw.2 c25
                              refine lv_aload_n (pc := 289) C.1 C.2.1 dX9_next_289 rfl (lv_at hl 0 rfl) ?_
                              refine GM_X9_255_0 (pc := 290) C h dX9_next_290 ?_
                              refine lv_goto (tgt := 319) (pc := 293) C.1 C.2.1 dX9_next_293 (by decide) ?_
                              exact hw _ _ _ h (lv_sub hl [0] rfl))
                  refine lv_icmp_ne (tgt := 243) (pc := 154) C.1 C.2.1 dX9_next_154 (by decide) (fun c26 => ?_) (fun c26 => ?_)
                  · have hw := hw.1 c26
                    exact hw _ _ _ h (lv_sub hl [0] rfl)
                  · have hw := hw.2 c26
                    refine lv_aload_n (pc := 157) C.1 C.2.1 dX9_next_157 rfl (lv_at hl 0 rfl) ?_
                    refine GM_X9_249_0 (pc := 158) C h dX9_next_158 ?_
                    refine lv_aload_n (pc := 161) C.1 C.2.1 dX9_next_161 rfl (lv_at hl 0 rfl) ?_
                    refine GM_X9_243_0 (pc := 162) C h dX9_next_162 ?_
                    refine lv_icmp_ge (tgt := 243) (pc := 165) C.1 C.2.1 dX9_next_165 (by decide) (fun c27 => ?_) (fun c27 => ?_)
                    · have hw := hw.1 c27
                      exact hw _ _ _ h (lv_sub hl [0] rfl)
                    · have hw := hw.2 c27
                      refine lv_aload_n (pc := 168) C.1 C.2.1 dX9_next_168 rfl (lv_at hl 0 rfl) ?_
                      refine GM_X9_91_0 (pc := 169) C h dX9_next_169 ?_
                      refine lv_aload_n (pc := 172) C.1 C.2.1 dX9_next_172 rfl (lv_at hl 0 rfl) ?_
                      refine GM_X9_249_0 (pc := 173) C h dX9_next_173 ?_
                      refine ldM_25 (pc := 176) C h hw.1 dX9_next_176 ?_
                      have hw := hw.2
                      refine cl_si (pc := 177) (As := [.int (gF z12 25 (gI z12 38).toNatClampNeg)]) (rest := []) C h (m_X9_isSmall l D t a (gF z12 25 (gI z12 38).toNatClampNeg) z12 _ hw) mw_X9_isSmall lm_X9_259 md_X9_isSmall ⟨by decide, by decide⟩ ⟨Nat.zero_le _, Nat.zero_le _⟩ hl.1 rfl (Nat.le_of_ble_eq_true rfl) dX9_next_177 (fun r29 z28 H locs hw h => ?_)
                      refine lv_if_eq (tgt := 243) (pc := 180) C.1 C.2.1 dX9_next_180 (by decide) (fun c30 => ?_) (fun c30 => ?_)
                      · have hw := hw.1 c30
                        exact hw _ _ _ h (lv_sub hl [0] rfl)
                      · have hw := hw.2 c30
                        refine lv_aload_n (pc := 183) C.1 C.2.1 dX9_next_183 rfl (lv_at hl 0 rfl) ?_
                        refine lv_aload_n (pc := 184) C.1 C.2.1 dX9_next_184 rfl (lv_at hl 0 rfl) ?_
                        refine GM_X9_249_0 (pc := 185) C h dX9_next_185 ?_
                        refine lv_aload_n (pc := 188) C.1 C.2.1 dX9_next_188 rfl (lv_at hl 0 rfl) ?_
                        refine GM_X9_252_0 (pc := 189) C h dX9_next_189 ?_
                        refine lv_isub (pc := 192) C.1 C.2.1 dX9_next_192 ?_
                        refine lv_bipush (v := 7) (pc := 193) C.1 C.2.1 dX9_next_193 (by decide) ?_
                        have hw := hw (fun (s31 : Int64) (z33 : St) => ∀ (H : Heap) (locs : List Loc) (ls : Array Slot), wd D t A s (wM t a z33) H locs → lv_has ls 1 [(0, .ref (a 0))] → W p l e (rmd 1) s m args below meth c H locs 0 0 (QV D t A (wM t a) P below args s) (F0 m 227 ls [.long s31, .ref (a 0)])) (by
                            intro s31 z33 hw H locs ls h hl
                            refine PM_X9_255_0 (pc := 227) C h dX9_next_227 (fun z34 ez34 H locs h => ?_)
                            have hw := hw z34 ez34
                            refine lv_aload_n (pc := 230) C.1 C.2.1 dX9_next_230 rfl (lv_at hl 0 rfl) ?_
                            refine lv_dup (pc := 231) C.1 C.2.1 dX9_next_231 rfl ?_
                            refine GM_X9_249_0 (pc := 232) C h dX9_next_232 ?_
                            refine lv_iconst (v := 1) (pc := 235) C.1 C.2.1 dX9_next_235 (by decide) ?_
                            refine lv_iadd (pc := 236) C.1 C.2.1 dX9_next_236 ?_
                            refine PM_X9_249_0 (pc := 237) C h dX9_next_237 (fun z35 ez35 H locs h => ?_)
                            have hw := hw z35 ez35
                            refine lv_goto (tgt := 149) (pc := 240) C.1 C.2.1 dX9_next_240 (by decide) ?_
                            exact hw _ _ _ h (lv_sub hl [0] rfl))
                        refine lv_icmp_ge (tgt := 224) (pc := 195) C.1 C.2.1 dX9_next_195 (by decide) (fun c36 => ?_) (fun c36 => ?_)
                        · have hw := hw.1 c36
                          refine lv_ldc2 (pc := 224) C.1 C.2.1 C.2.2.2.1 (C.2.2.2.2 _ lc_X9_272) dX9_next_224 ?_
                          exact hw _ _ _ h (lv_sub hl [0] rfl)
                        · have hw := hw.2 c36
                          refine lv_aload_n (pc := 198) C.1 C.2.1 dX9_next_198 rfl (lv_at hl 0 rfl) ?_
                          refine GM_X9_255_0 (pc := 199) C h dX9_next_199 ?_
                          refine lv_ldc2 (pc := 202) C.1 C.2.1 C.2.2.2.1 (C.2.2.2.2 _ lc_X9_268) dX9_next_202 ?_
                          refine lv_lmul (pc := 205) C.1 C.2.1 dX9_next_205 ?_
                          refine lv_aload_n (pc := 206) C.1 C.2.1 dX9_next_206 rfl (lv_at hl 0 rfl) ?_
                          refine GM_X9_91_0 (pc := 207) C h dX9_next_207 ?_
                          refine lv_aload_n (pc := 210) C.1 C.2.1 dX9_next_210 rfl (lv_at hl 0 rfl) ?_
                          refine GM_X9_249_0 (pc := 211) C h dX9_next_211 ?_
                          refine ldM_25 (pc := 214) C h hw.1 dX9_next_214 ?_
                          have hw := hw.2
                          refine lv_i2l (pc := 215) C.1 C.2.1 dX9_next_215 rfl ?_
                          refine lv_ladd (pc := 216) C.1 C.2.1 dX9_next_216 ?_
                          refine lv_ldc2 (pc := 217) C.1 C.2.1 C.2.2.2.1 (C.2.2.2.2 _ lc_X9_270) dX9_next_217 ?_
                          refine lv_lsub (pc := 220) C.1 C.2.1 dX9_next_220 ?_
                          refine lv_goto (tgt := 227) (pc := 221) C.1 C.2.1 dX9_next_221 (by decide) ?_
                          exact hw _ _ _ h (lv_sub hl [0] rfl))
              refine lv_icmp_ne (tgt := 149) (pc := 122) C.1 C.2.1 dX9_next_122 (by decide) (fun c37 => ?_) (fun c37 => ?_)
              · have hw := hw.1 c37
                exact hw _ _ _ h (lv_sub hl [0] rfl)
              · have hw := hw.2 c37
                refine lv_aload_n (pc := 125) C.1 C.2.1 dX9_next_125 rfl (lv_at hl 0 rfl) ?_
                refine lv_aload_n (pc := 126) C.1 C.2.1 dX9_next_126 rfl (lv_at hl 0 rfl) ?_
                refine GM_X9_91_0 (pc := 127) C h dX9_next_127 ?_
                refine lv_aload_n (pc := 130) C.1 C.2.1 dX9_next_130 rfl (lv_at hl 0 rfl) ?_
                refine GM_X9_252_0 (pc := 131) C h dX9_next_131 ?_
                refine ldM_25 (pc := 134) C h hw.1 dX9_next_134 ?_
                have hw := hw.2
                refine lv_i2l (pc := 135) C.1 C.2.1 dX9_next_135 rfl ?_
                refine PM_X9_255_0 (pc := 136) C h dX9_next_136 (fun z38 ez38 H locs h => ?_)
                have hw := hw z38 ez38
                refine lv_aload_n (pc := 139) C.1 C.2.1 dX9_next_139 rfl (lv_at hl 0 rfl) ?_
                refine lv_dup (pc := 140) C.1 C.2.1 dX9_next_140 rfl ?_
                refine GM_X9_249_0 (pc := 141) C h dX9_next_141 ?_
                refine lv_iconst (v := 1) (pc := 144) C.1 C.2.1 dX9_next_144 (by decide) ?_
                refine lv_iadd (pc := 145) C.1 C.2.1 dX9_next_145 ?_
                refine PM_X9_249_0 (pc := 146) C h dX9_next_146 (fun z39 ez39 H locs h => ?_)
                have hw := hw z39 ez39
                exact hw _ _ _ h (lv_sub hl [0] rfl))
          refine lv_icmp_ne (tgt := 75) (pc := 68) C.1 C.2.1 dX9_next_68 (by decide) (fun c40 => ?_) (fun c40 => ?_)
          · have hw := hw.1 c40
            refine lv_aload_n (pc := 75) C.1 C.2.1 dX9_next_75 rfl (lv_at hl 0 rfl) ?_
            refine GM_X9_91_0 (pc := 76) C h dX9_next_76 ?_
            refine lv_aload_n (pc := 79) C.1 C.2.1 dX9_next_79 rfl (lv_at hl 0 rfl) ?_
            refine GM_X9_252_0 (pc := 80) C h dX9_next_80 ?_
            refine ldM_25 (pc := 83) C h hw.1 dX9_next_83 ?_
            have hw := hw.2
            refine cl_si (pc := 84) (As := [.int (gF z6 25 (gI z6 37).toNatClampNeg)]) (rest := [.ref (a 0)]) C h (m_X9_isSmall l D t a (gF z6 25 (gI z6 37).toNatClampNeg) z6 _ hw) mw_X9_isSmall lm_X9_259 md_X9_isSmall ⟨by decide, by decide⟩ ⟨Nat.zero_le _, Nat.zero_le _⟩ hl.1 rfl (Nat.le_of_ble_eq_true rfl) dX9_next_84 (fun r42 z41 H locs hw h => ?_)
            refine lv_if_eq (tgt := 94) (pc := 87) C.1 C.2.1 dX9_next_87 (by decide) (fun c43 => ?_) (fun c43 => ?_)
            · have hw := hw.1 c43
              refine lv_aload_n (pc := 94) C.1 C.2.1 dX9_next_94 rfl (lv_at hl 0 rfl) ?_
              refine GM_X9_91_0 (pc := 95) C h dX9_next_95 ?_
              refine lv_aload_n (pc := 98) C.1 C.2.1 dX9_next_98 rfl (lv_at hl 0 rfl) ?_
              refine GM_X9_252_0 (pc := 99) C h dX9_next_99 ?_
              refine ldM_25 (pc := 102) C h hw.1 dX9_next_102 ?_
              have hw := hw.2
              refine cl_si (pc := 103) (As := [.int (gF z41 25 (gI z41 37).toNatClampNeg)]) (rest := [.ref (a 0)]) C h (m_X9_isDigit l D t a (gF z41 25 (gI z41 37).toNatClampNeg) z41 _ hw) mw_X9_isDigit lm_X9_262 md_X9_isDigit ⟨by decide, by decide⟩ ⟨Nat.zero_le _, Nat.zero_le _⟩ hl.1 rfl (Nat.le_of_ble_eq_true rfl) dX9_next_103 (fun r45 z44 H locs hw h => ?_)
              refine lv_if_eq (tgt := 113) (pc := 106) C.1 C.2.1 dX9_next_106 (by decide) (fun c46 => ?_) (fun c46 => ?_)
              · have hw := hw.1 c46
                refine lv_iconst (v := 3) (pc := 113) C.1 C.2.1 dX9_next_113 (by decide) ?_
                exact hw _ _ _ h (lv_sub hl [0] rfl)
              · have hw := hw.2 c46
                refine lv_iconst (v := 2) (pc := 109) C.1 C.2.1 dX9_next_109 (by decide) ?_
                refine lv_goto (tgt := 114) (pc := 110) C.1 C.2.1 dX9_next_110 (by decide) ?_
                exact hw _ _ _ h (lv_sub hl [0] rfl)
            · have hw := hw.2 c43
              refine lv_iconst (v := 1) (pc := 90) C.1 C.2.1 dX9_next_90 (by decide) ?_
              refine lv_goto (tgt := 114) (pc := 91) C.1 C.2.1 dX9_next_91 (by decide) ?_
              exact hw _ _ _ h (lv_sub hl [0] rfl)
          · have hw := hw.2 c40
            refine lv_iconst (v := 0) (pc := 71) C.1 C.2.1 dX9_next_71 (by decide) ?_
            refine lv_goto (tgt := 114) (pc := 72) C.1 C.2.1 dX9_next_72 (by decide) ?_
            exact hw _ _ _ h (lv_sub hl [0] rfl))
      refine lv_icmp_ge (tgt := 46) (pc := 16) C.1 C.2.1 dX9_next_16 (by decide) (fun c47 => ?_) (fun c47 => ?_)
      · have hw := hw.1 c47
        exact hw _ _ _ h (lv_sub hl [0] rfl)
      · have hw := hw.2 c47
        refine lv_aload_n (pc := 19) C.1 C.2.1 dX9_next_19 rfl (lv_at hl 0 rfl) ?_
        refine GM_X9_91_0 (pc := 20) C h dX9_next_20 ?_
        refine lv_aload_n (pc := 23) C.1 C.2.1 dX9_next_23 rfl (lv_at hl 0 rfl) ?_
        refine GM_X9_252_0 (pc := 24) C h dX9_next_24 ?_
        refine ldM_25 (pc := 27) C h hw.1 dX9_next_27 ?_
        have hw := hw.2
        refine lv_bipush (v := 32) (pc := 28) C.1 C.2.1 dX9_next_28 (by decide) ?_
        refine lv_icmp_ne (tgt := 46) (pc := 30) C.1 C.2.1 dX9_next_30 (by decide) (fun c48 => ?_) (fun c48 => ?_)
        · have hw := hw.1 c48
          exact hw _ _ _ h (lv_sub hl [0] rfl)
        · have hw := hw.2 c48
          refine lv_aload_n (pc := 33) C.1 C.2.1 dX9_next_33 rfl (lv_at hl 0 rfl) ?_
          refine lv_dup (pc := 34) C.1 C.2.1 dX9_next_34 rfl ?_
          refine GM_X9_252_0 (pc := 35) C h dX9_next_35 ?_
          refine lv_iconst (v := 1) (pc := 38) C.1 C.2.1 dX9_next_38 (by decide) ?_
          refine lv_iadd (pc := 39) C.1 C.2.1 dX9_next_39 ?_
          refine PM_X9_252_0 (pc := 40) C h dX9_next_40 (fun z49 ez49 H locs h => ?_)
          have hw := hw z49 ez49
          refine lv_goto (tgt := 8) (pc := 43) C.1 C.2.1 dX9_next_43 (by decide) ?_
          exact hw _ _ _ h (lv_sub hl [0] rfl))
  refine PM_X9_252_0 (pc := 5) C h dX9_next_5 (fun z50 ez50 H locs h => ?_)
  have hw := hw z50 ez50
  exact hw _ _ _ h (lv_sub hl [0] rfl)

def wp_X9_must (b1 : Int32) (z : St) (P : St → Prop) : Prop :=
  (∀ K1 : St → Prop, (∀ (z2 : St), (((¬ (gI z2 42) = 0) → P z2) ∧ ((gI z2 42) = 0 → (wp_X9_next z2 (fun z4 => P z4)))) → K1 z2) → (((¬ (gI z 42) = 0) → K1 z) ∧ ((gI z 42) = 0 → (((¬ b1 = 0) → K1 z) ∧ (b1 = 0 → (∀ z8 : St, z8 = wI z 42 ((1 : Int32)) → (∀ z9 : St, z9 = wI z8 41 (gI z8 37) → K1 z9)))))))
set_option maxHeartbeats 4000000 in
set_option maxRecDepth 100000 in
theorem m_X9_must (l : Launch) (D : va_G) (t : Ty3) (a : Nat → Nat) (b1 : Int32) (z : St) (P : St → Prop) (hw : wp_X9_must b1 z P) : CtV l D t yX9_must cX9_must 2 none 2 (wM t a) (wM t a z) [.ref (a 0), .int b1] P := by
  refine ctV_of (by decide) (Nat.le_of_ble_eq_true rfl) ?_
  intro p e s m args below meth c A ls C hr hlk h hl
  have hl : lv_has ls 2 [(0, .ref (a 0)), (1, .int b1)] := hl
  unfold wp_X9_must at hw
  refine lv_aload_n (pc := 0) C.1 C.2.1 dX9_must_0 rfl (lv_at hl 0 rfl) ?_
  refine GM_X9_274_0 (pc := 1) C h dX9_must_1 ?_
  have hw := hw (fun (z2 : St) => ∀ (H : Heap) (locs : List Loc) (ls : Array Slot), wd D t A s (wM t a z2) H locs → lv_has ls 2 [(0, .ref (a 0))] → W p l e (rmd 2) s m args below meth c H locs 0 0 (QV D t A (wM t a) P below args s) (F0 m 24 ls [])) (by
      intro z2 hw H locs ls h hl
      refine lv_aload_n (pc := 24) C.1 C.2.1 dX9_must_24 rfl (lv_at hl 0 rfl) ?_
      refine GM_X9_274_0 (pc := 25) C h dX9_must_25 ?_
      refine lv_if_ne (tgt := 35) (pc := 28) C.1 C.2.1 dX9_must_28 (by decide) (fun c3 => ?_) (fun c3 => ?_)
      · have hw := hw.1 c3
        exact rt_v (pc := 35) C hr hlk h hw dX9_must_35
      · have hw := hw.2 c3
        refine lv_aload_n (pc := 31) C.1 C.2.1 dX9_must_31 rfl (lv_at hl 0 rfl) ?_
        refine cl_vv (pc := 32) (As := []) (rest := []) C h (m_X9_next l D t a z2 _ hw) mw_X9_next lm_X9_277 md_X9_next rcM_0 ⟨by decide, by decide⟩ ⟨Nat.zero_le _, Nat.zero_le _⟩ hl.1 rfl (Nat.le_of_ble_eq_true rfl) dX9_must_32 (fun z4 H locs hw h => ?_)
        exact rt_v (pc := 35) C hr hlk h hw dX9_must_35)
  refine lv_if_ne (tgt := 24) (pc := 4) C.1 C.2.1 dX9_must_4 (by decide) (fun c6 => ?_) (fun c6 => ?_)
  · have hw := hw.1 c6
    exact hw _ _ _ h (lv_sub hl [0] rfl)
  · have hw := hw.2 c6
    refine lv_iload_n (pc := 7) C.1 C.2.1 dX9_must_7 rfl (lv_at hl 1 rfl) ?_
    refine lv_if_ne (tgt := 24) (pc := 8) C.1 C.2.1 dX9_must_8 (by decide) (fun c7 => ?_) (fun c7 => ?_)
    · have hw := hw.1 c7
      exact hw _ _ _ h (lv_sub hl [0] rfl)
    · have hw := hw.2 c7
      refine lv_aload_n (pc := 11) C.1 C.2.1 dX9_must_11 rfl (lv_at hl 0 rfl) ?_
      refine lv_iconst (v := 1) (pc := 12) C.1 C.2.1 dX9_must_12 (by decide) ?_
      refine PM_X9_274_0 (pc := 13) C h (Or.inr rfl) dX9_must_13 (fun z8 ez8 H locs h => ?_)
      have hw := hw z8 ez8
      refine lv_aload_n (pc := 16) C.1 C.2.1 dX9_must_16 rfl (lv_at hl 0 rfl) ?_
      refine lv_aload_n (pc := 17) C.1 C.2.1 dX9_must_17 rfl (lv_at hl 0 rfl) ?_
      refine GM_X9_252_0 (pc := 18) C h dX9_must_18 ?_
      refine PM_X9_94_0 (pc := 21) C h dX9_must_21 (fun z9 ez9 H locs h => ?_)
      have hw := hw z9 ez9
      exact hw _ _ _ h (lv_sub hl [0] rfl)

def wp_X9_isWord (b1 : Int32) (b2 : Int32) (b3 : Int32) (b4 : Int32) (b5 : Int32) (b6 : Int32) (z : St) (P : Int32 → St → Prop) : Prop :=
  (∀ x1 : Int64, x1 = ((((Int32.toInt64 b1) - ((96 : Int64))) * ((32 : Int64))) + (Int32.toInt64 b2)) - ((96 : Int64)) → (∀ K3 : Int64 → St → Prop, (∀ (s2 : Int64) (z4 : St), (∀ K6 : Int64 → St → Prop, (∀ (s5 : Int64) (z7 : St), (∀ K9 : Int64 → St → Prop, (∀ (s8 : Int64) (z10 : St), (∀ K12 : Int64 → St → Prop, (∀ (s11 : Int64) (z13 : St), (((¬ (gI z13 39) = ((1 : Int32))) → P ((0 : Int32)) z13) ∧ ((gI z13 39) = ((1 : Int32)) → (((¬ (lg_cmp (gJ z13 40) s11) = 0) → P ((0 : Int32)) z13) ∧ ((lg_cmp (gJ z13 40) s11) = 0 → P ((1 : Int32)) z13)))) → K12 s11 z13) → (((¬ b6 = 0) → K12 (((s8 * ((32 : Int64))) + (Int32.toInt64 b6)) - ((96 : Int64))) z10) ∧ (b6 = 0 → K12 s8 z10))) → K9 s8 z10) → (((¬ b5 = 0) → K9 (((s5 * ((32 : Int64))) + (Int32.toInt64 b5)) - ((96 : Int64))) z7) ∧ (b5 = 0 → K9 s5 z7))) → K6 s5 z7) → (((¬ b4 = 0) → K6 (((s2 * ((32 : Int64))) + (Int32.toInt64 b4)) - ((96 : Int64))) z4) ∧ (b4 = 0 → K6 s2 z4))) → K3 s2 z4) → (((¬ b3 = 0) → K3 (((x1 * ((32 : Int64))) + (Int32.toInt64 b3)) - ((96 : Int64))) z) ∧ (b3 = 0 → K3 x1 z))))
set_option maxHeartbeats 4000000 in
set_option maxRecDepth 100000 in
theorem m_X9_isWord (l : Launch) (D : va_G) (t : Ty3) (a : Nat → Nat) (b1 : Int32) (b2 : Int32) (b3 : Int32) (b4 : Int32) (b5 : Int32) (b6 : Int32) (z : St) (P : Int32 → St → Prop) (hw : wp_X9_isWord b1 b2 b3 b4 b5 b6 z P) : CtI l D t yX9_isWord cX9_isWord 9 (some .boolean) 0 (wM t a) (wM t a z) [.ref (a 0), .int b1, .int b2, .int b3, .int b4, .int b5, .int b6] P := by
  refine ctI_of (by decide) (Nat.le_of_ble_eq_true rfl) ?_
  intro p e s m args below meth c A ls C hr hlk h hl
  have hl : lv_has ls 9 [(0, .ref (a 0)), (1, .int b1), (2, .int b2), (3, .int b3), (4, .int b4), (5, .int b5), (6, .int b6)] := hl
  unfold wp_X9_isWord at hw
  refine lv_iload_n (pc := 0) C.1 C.2.1 dX9_isWord_0 rfl (lv_at hl 1 rfl) ?_
  refine lv_i2l (pc := 1) C.1 C.2.1 dX9_isWord_1 rfl ?_
  refine lv_ldc2 (pc := 2) C.1 C.2.1 C.2.2.2.1 (C.2.2.2.2 _ lc_X9_270) dX9_isWord_2 ?_
  refine lv_lsub (pc := 5) C.1 C.2.1 dX9_isWord_5 ?_
  refine lv_ldc2 (pc := 6) C.1 C.2.1 C.2.2.2.1 (C.2.2.2.2 _ lc_X9_268) dX9_isWord_6 ?_
  refine lv_lmul (pc := 9) C.1 C.2.1 dX9_isWord_9 ?_
  refine lv_iload_n (pc := 10) C.1 C.2.1 dX9_isWord_10 rfl (lv_at hl 2 rfl) ?_
  refine lv_i2l (pc := 11) C.1 C.2.1 dX9_isWord_11 rfl ?_
  refine lv_ladd (pc := 12) C.1 C.2.1 dX9_isWord_12 ?_
  refine lv_ldc2 (pc := 13) C.1 C.2.1 C.2.2.2.1 (C.2.2.2.2 _ lc_X9_270) dX9_isWord_13 ?_
  refine lv_lsub (pc := 16) C.1 C.2.1 dX9_isWord_16 ?_
  refine lv_topl (fun x1 ex1 => ?_)
  have hw := hw x1 ex1
  refine lv_lstore (lv' := [(7, .long x1), (0, .ref (a 0)), (1, .int b1), (2, .int b2), (3, .int b3), (4, .int b4), (5, .int b5), (6, .int b6)]) (pc := 17) C.1 C.2.1 dX9_isWord_17 hl (by decide) rfl (fun ls hl => ?_)
  refine lv_iload_n (pc := 19) C.1 C.2.1 dX9_isWord_19 rfl (lv_at hl 4 rfl) ?_
  have hw := hw (fun (s2 : Int64) (z4 : St) => ∀ (H : Heap) (locs : List Loc) (ls : Array Slot), wd D t A s (wM t a z4) H locs → lv_has ls 9 [(0, .ref (a 0)), (4, .int b4), (5, .int b5), (6, .int b6)] → W p l e (rmd 0) s m args below meth c H locs 0 0 (QI D t A (wM t a) P below args s) (F0 m 41 ls [.long s2])) (by
      intro s2 z4 hw H locs ls h hl
      refine lv_lstore (lv' := [(7, .long s2), (0, .ref (a 0)), (4, .int b4), (5, .int b5), (6, .int b6)]) (pc := 41) C.1 C.2.1 dX9_isWord_41 hl (by decide) rfl (fun ls hl => ?_)
      refine lv_iload (pc := 43) C.1 C.2.1 dX9_isWord_43 (lv_at hl 2 rfl) ?_
      have hw := hw (fun (s5 : Int64) (z7 : St) => ∀ (H : Heap) (locs : List Loc) (ls : Array Slot), wd D t A s (wM t a z7) H locs → lv_has ls 9 [(0, .ref (a 0)), (5, .int b5), (6, .int b6)] → W p l e (rmd 0) s m args below meth c H locs 0 0 (QI D t A (wM t a) P below args s) (F0 m 67 ls [.long s5])) (by
          intro s5 z7 hw H locs ls h hl
          refine lv_lstore (lv' := [(7, .long s5), (0, .ref (a 0)), (5, .int b5), (6, .int b6)]) (pc := 67) C.1 C.2.1 dX9_isWord_67 hl (by decide) rfl (fun ls hl => ?_)
          refine lv_iload (pc := 69) C.1 C.2.1 dX9_isWord_69 (lv_at hl 2 rfl) ?_
          have hw := hw (fun (s8 : Int64) (z10 : St) => ∀ (H : Heap) (locs : List Loc) (ls : Array Slot), wd D t A s (wM t a z10) H locs → lv_has ls 9 [(0, .ref (a 0)), (6, .int b6)] → W p l e (rmd 0) s m args below meth c H locs 0 0 (QI D t A (wM t a) P below args s) (F0 m 93 ls [.long s8])) (by
              intro s8 z10 hw H locs ls h hl
              refine lv_lstore (lv' := [(7, .long s8), (0, .ref (a 0)), (6, .int b6)]) (pc := 93) C.1 C.2.1 dX9_isWord_93 hl (by decide) rfl (fun ls hl => ?_)
              refine lv_iload (pc := 95) C.1 C.2.1 dX9_isWord_95 (lv_at hl 2 rfl) ?_
              have hw := hw (fun (s11 : Int64) (z13 : St) => ∀ (H : Heap) (locs : List Loc) (ls : Array Slot), wd D t A s (wM t a z13) H locs → lv_has ls 9 [(0, .ref (a 0))] → W p l e (rmd 0) s m args below meth c H locs 0 0 (QI D t A (wM t a) P below args s) (F0 m 119 ls [.long s11])) (by
                  intro s11 z13 hw H locs ls h hl
                  refine lv_lstore (lv' := [(7, .long s11), (0, .ref (a 0))]) (pc := 119) C.1 C.2.1 dX9_isWord_119 hl (by decide) rfl (fun ls hl => ?_)
                  refine lv_aload_n (pc := 121) C.1 C.2.1 dX9_isWord_121 rfl (lv_at hl 1 rfl) ?_
                  refine GM_X9_265_0 (pc := 122) C h dX9_isWord_122 ?_
                  refine lv_iconst (v := 1) (pc := 125) C.1 C.2.1 dX9_isWord_125 (by decide) ?_
                  refine lv_icmp_ne (tgt := 143) (pc := 126) C.1 C.2.1 dX9_isWord_126 (by decide) (fun c14 => ?_) (fun c14 => ?_)
                  · have hw := hw.1 c14
                    refine lv_iconst (v := 0) (pc := 143) C.1 C.2.1 dX9_isWord_143 (by decide) ?_
                    exact rt_z (pc := 144) C hr hlk h (Or.inl rfl) hw dX9_isWord_144
                  · have hw := hw.2 c14
                    refine lv_aload_n (pc := 129) C.1 C.2.1 dX9_isWord_129 rfl (lv_at hl 1 rfl) ?_
                    refine GM_X9_255_0 (pc := 130) C h dX9_isWord_130 ?_
                    refine lv_lload (pc := 133) C.1 C.2.1 dX9_isWord_133 (lv_at hl 0 rfl) ?_
                    refine W.lcmp (pc := 135) C.1 C.2.1 dX9_isWord_135 ?_
                    refine lv_if_ne (tgt := 143) (pc := 136) C.1 C.2.1 dX9_isWord_136 (by decide) (fun c15 => ?_) (fun c15 => ?_)
                    · have hw := hw.1 c15
                      refine lv_iconst (v := 0) (pc := 143) C.1 C.2.1 dX9_isWord_143 (by decide) ?_
                      exact rt_z (pc := 144) C hr hlk h (Or.inl rfl) hw dX9_isWord_144
                    · have hw := hw.2 c15
                      refine lv_iconst (v := 1) (pc := 139) C.1 C.2.1 dX9_isWord_139 (by decide) ?_
                      refine lv_goto (tgt := 144) (pc := 140) C.1 C.2.1 dX9_isWord_140 (by decide) ?_
                      exact rt_z (pc := 144) C hr hlk h (Or.inr rfl) hw dX9_isWord_144)
              refine lv_if_ne (tgt := 105) (pc := 97) C.1 C.2.1 dX9_isWord_97 (by decide) (fun c16 => ?_) (fun c16 => ?_)
              · have hw := hw.1 c16
                refine lv_lload (pc := 105) C.1 C.2.1 dX9_isWord_105 (lv_at hl 0 rfl) ?_
                refine lv_ldc2 (pc := 107) C.1 C.2.1 C.2.2.2.1 (C.2.2.2.2 _ lc_X9_268) dX9_isWord_107 ?_
                refine lv_lmul (pc := 110) C.1 C.2.1 dX9_isWord_110 ?_
                refine lv_iload (pc := 111) C.1 C.2.1 dX9_isWord_111 (lv_at hl 2 rfl) ?_
                refine lv_i2l (pc := 113) C.1 C.2.1 dX9_isWord_113 rfl ?_
                refine lv_ladd (pc := 114) C.1 C.2.1 dX9_isWord_114 ?_
                refine lv_ldc2 (pc := 115) C.1 C.2.1 C.2.2.2.1 (C.2.2.2.2 _ lc_X9_270) dX9_isWord_115 ?_
                refine lv_lsub (pc := 118) C.1 C.2.1 dX9_isWord_118 ?_
                exact hw _ _ _ h (lv_sub hl [1] rfl)
              · have hw := hw.2 c16
                refine lv_lload (pc := 100) C.1 C.2.1 dX9_isWord_100 (lv_at hl 0 rfl) ?_
                refine lv_goto (tgt := 119) (pc := 102) C.1 C.2.1 dX9_isWord_102 (by decide) ?_
                exact hw _ _ _ h (lv_sub hl [1] rfl))
          refine lv_if_ne (tgt := 79) (pc := 71) C.1 C.2.1 dX9_isWord_71 (by decide) (fun c17 => ?_) (fun c17 => ?_)
          · have hw := hw.1 c17
            refine lv_lload (pc := 79) C.1 C.2.1 dX9_isWord_79 (lv_at hl 0 rfl) ?_
            refine lv_ldc2 (pc := 81) C.1 C.2.1 C.2.2.2.1 (C.2.2.2.2 _ lc_X9_268) dX9_isWord_81 ?_
            refine lv_lmul (pc := 84) C.1 C.2.1 dX9_isWord_84 ?_
            refine lv_iload (pc := 85) C.1 C.2.1 dX9_isWord_85 (lv_at hl 2 rfl) ?_
            refine lv_i2l (pc := 87) C.1 C.2.1 dX9_isWord_87 rfl ?_
            refine lv_ladd (pc := 88) C.1 C.2.1 dX9_isWord_88 ?_
            refine lv_ldc2 (pc := 89) C.1 C.2.1 C.2.2.2.1 (C.2.2.2.2 _ lc_X9_270) dX9_isWord_89 ?_
            refine lv_lsub (pc := 92) C.1 C.2.1 dX9_isWord_92 ?_
            exact hw _ _ _ h (lv_sub hl [1, 3] rfl)
          · have hw := hw.2 c17
            refine lv_lload (pc := 74) C.1 C.2.1 dX9_isWord_74 (lv_at hl 0 rfl) ?_
            refine lv_goto (tgt := 93) (pc := 76) C.1 C.2.1 dX9_isWord_76 (by decide) ?_
            exact hw _ _ _ h (lv_sub hl [1, 3] rfl))
      refine lv_if_ne (tgt := 53) (pc := 45) C.1 C.2.1 dX9_isWord_45 (by decide) (fun c18 => ?_) (fun c18 => ?_)
      · have hw := hw.1 c18
        refine lv_lload (pc := 53) C.1 C.2.1 dX9_isWord_53 (lv_at hl 0 rfl) ?_
        refine lv_ldc2 (pc := 55) C.1 C.2.1 C.2.2.2.1 (C.2.2.2.2 _ lc_X9_268) dX9_isWord_55 ?_
        refine lv_lmul (pc := 58) C.1 C.2.1 dX9_isWord_58 ?_
        refine lv_iload (pc := 59) C.1 C.2.1 dX9_isWord_59 (lv_at hl 2 rfl) ?_
        refine lv_i2l (pc := 61) C.1 C.2.1 dX9_isWord_61 rfl ?_
        refine lv_ladd (pc := 62) C.1 C.2.1 dX9_isWord_62 ?_
        refine lv_ldc2 (pc := 63) C.1 C.2.1 C.2.2.2.1 (C.2.2.2.2 _ lc_X9_270) dX9_isWord_63 ?_
        refine lv_lsub (pc := 66) C.1 C.2.1 dX9_isWord_66 ?_
        exact hw _ _ _ h (lv_sub hl [1, 3, 4] rfl)
      · have hw := hw.2 c18
        refine lv_lload (pc := 48) C.1 C.2.1 dX9_isWord_48 (lv_at hl 0 rfl) ?_
        refine lv_goto (tgt := 67) (pc := 50) C.1 C.2.1 dX9_isWord_50 (by decide) ?_
        exact hw _ _ _ h (lv_sub hl [1, 3, 4] rfl))
  refine lv_if_ne (tgt := 28) (pc := 20) C.1 C.2.1 dX9_isWord_20 (by decide) (fun c19 => ?_) (fun c19 => ?_)
  · have hw := hw.1 c19
    refine lv_lload (pc := 28) C.1 C.2.1 dX9_isWord_28 (lv_at hl 0 rfl) ?_
    refine lv_ldc2 (pc := 30) C.1 C.2.1 C.2.2.2.1 (C.2.2.2.2 _ lc_X9_268) dX9_isWord_30 ?_
    refine lv_lmul (pc := 33) C.1 C.2.1 dX9_isWord_33 ?_
    refine lv_iload_n (pc := 34) C.1 C.2.1 dX9_isWord_34 rfl (lv_at hl 4 rfl) ?_
    refine lv_i2l (pc := 35) C.1 C.2.1 dX9_isWord_35 rfl ?_
    refine lv_ladd (pc := 36) C.1 C.2.1 dX9_isWord_36 ?_
    refine lv_ldc2 (pc := 37) C.1 C.2.1 C.2.2.2.1 (C.2.2.2.2 _ lc_X9_270) dX9_isWord_37 ?_
    refine lv_lsub (pc := 40) C.1 C.2.1 dX9_isWord_40 ?_
    exact hw _ _ _ h (lv_sub hl [1, 5, 6, 7] rfl)
  · have hw := hw.2 c19
    refine lv_lload (pc := 23) C.1 C.2.1 dX9_isWord_23 (lv_at hl 0 rfl) ?_
    refine lv_goto (tgt := 41) (pc := 25) C.1 C.2.1 dX9_isWord_25 (by decide) ?_
    exact hw _ _ _ h (lv_sub hl [1, 5, 6, 7] rfl)

def wp_X9_number (b1 : Int64) (z : St) (P : Int32 → St → Prop) : Prop :=
  (∀ x1 : Int32, x1 = Int64.toInt32 (gJ z 40) → (∀ K4 : Int32 → Int32 → St → Prop, (∀ (v2 : Int32) (s3 : Int32) (z5 : St), (wp_X9_must s3 z5 (fun z6 => P v2 z6)) → K4 v2 s3 z5) → (∀ K9 : Int32 → St → Prop, (∀ (v8 : Int32) (z10 : St), K4 v8 ((0 : Int32)) z10 → K9 v8 z10) → (((¬ (gI z 39) = ((2 : Int32))) → K9 x1 z) ∧ ((gI z 39) = ((2 : Int32)) → (((0 < (lg_cmp (gJ z 40) b1)) → K9 x1 z) ∧ (¬ (0 < (lg_cmp (gJ z 40) b1)) → K4 x1 ((1 : Int32)) z)))))))
set_option maxHeartbeats 4000000 in
set_option maxRecDepth 100000 in
theorem m_X9_number (l : Launch) (D : va_G) (t : Ty3) (a : Nat → Nat) (b1 : Int64) (z : St) (P : Int32 → St → Prop) (hw : wp_X9_number b1 z P) : CtI l D t yX9_number cX9_number 4 (some .int) 3 (wM t a) (wM t a z) [.ref (a 0), .long b1] P := by
  refine ctI_of (by decide) (Nat.le_of_ble_eq_true rfl) ?_
  intro p e s m args below meth c A ls C hr hlk h hl
  have hl : lv_has ls 4 [(0, .ref (a 0)), (1, .long b1)] := hl
  unfold wp_X9_number at hw
  refine lv_aload_n (pc := 0) C.1 C.2.1 dX9_number_0 rfl (lv_at hl 0 rfl) ?_
  refine GM_X9_255_0 (pc := 1) C h dX9_number_1 ?_
  refine lv_l2i (pc := 4) C.1 C.2.1 dX9_number_4 rfl ?_
  refine lv_topi (fun x1 ex1 => ?_)
  have hw := hw x1 ex1
  refine lv_istore_n (lv' := [(3, .int x1), (0, .ref (a 0)), (1, .long b1)]) (pc := 5) C.1 C.2.1 dX9_number_5 rfl hl (by decide) rfl (fun ls hl => ?_)
  refine lv_aload_n (pc := 6) C.1 C.2.1 dX9_number_6 rfl (lv_at hl 1 rfl) ?_
  refine lv_aload_n (pc := 7) C.1 C.2.1 dX9_number_7 rfl (lv_at hl 1 rfl) ?_
  refine GM_X9_265_0 (pc := 8) C h dX9_number_8 ?_
  refine lv_iconst (v := 2) (pc := 11) C.1 C.2.1 dX9_number_11 (by decide) ?_
  have hw := hw (fun (v2 : Int32) (s3 : Int32) (z5 : St) => ∀ (H : Heap) (locs : List Loc) (ls : Array Slot), wd D t A s (wM t a z5) H locs → lv_has ls 4 [(3, .int v2)] → W p l e (rmd 3) s m args below meth c H locs 0 0 (QI D t A (wM t a) P below args s) (F0 m 29 ls [.int s3, .ref (a 0)])) (by
      intro v2 s3 z5 hw H locs ls h hl
      refine cl_vv (pc := 29) (As := [.int s3]) (rest := []) C h (m_X9_must l D t a s3 z5 _ hw) mw_X9_must lm_X9_280 md_X9_must rcM_0 ⟨by decide, by decide⟩ ⟨Nat.zero_le _, Nat.zero_le _⟩ hl.1 rfl (Nat.le_of_ble_eq_true rfl) dX9_number_29 (fun z6 H locs hw h => ?_)
      refine lv_iload_n (pc := 32) C.1 C.2.1 dX9_number_32 rfl (lv_at hl 0 rfl) ?_
      exact rt_i (pc := 33) C hr hlk h hw dX9_number_33)
  have hw := hw (fun (v8 : Int32) (z10 : St) => ∀ (H : Heap) (locs : List Loc) (ls : Array Slot), wd D t A s (wM t a z10) H locs → lv_has ls 4 [(3, .int v8)] → W p l e (rmd 3) s m args below meth c H locs 0 0 (QI D t A (wM t a) P below args s) (F0 m 28 ls [.ref (a 0)])) (by
      intro v8 z10 hw H locs ls h hl
      refine lv_iconst (v := 0) (pc := 28) C.1 C.2.1 dX9_number_28 (by decide) ?_
      exact hw _ _ _ h (lv_sub hl [0] rfl))
  refine lv_icmp_ne (tgt := 28) (pc := 12) C.1 C.2.1 dX9_number_12 (by decide) (fun c11 => ?_) (fun c11 => ?_)
  · have hw := hw.1 c11
    exact hw _ _ _ h (lv_sub hl [0] rfl)
  · have hw := hw.2 c11
    refine lv_aload_n (pc := 15) C.1 C.2.1 dX9_number_15 rfl (lv_at hl 1 rfl) ?_
    refine GM_X9_255_0 (pc := 16) C h dX9_number_16 ?_
    refine lv_lload_n (pc := 19) C.1 C.2.1 dX9_number_19 rfl (lv_at hl 2 rfl) ?_
    refine W.lcmp (pc := 20) C.1 C.2.1 dX9_number_20 ?_
    refine lv_if_gt (tgt := 28) (pc := 21) C.1 C.2.1 dX9_number_21 (by decide) (fun c12 => ?_) (fun c12 => ?_)
    · have hw := hw.1 c12
      exact hw _ _ _ h (lv_sub hl [0] rfl)
    · have hw := hw.2 c12
      refine lv_iconst (v := 1) (pc := 24) C.1 C.2.1 dX9_number_24 (by decide) ?_
      refine lv_goto (tgt := 29) (pc := 25) C.1 C.2.1 dX9_number_25 (by decide) ?_
      exact hw _ _ _ h (lv_sub hl [0] rfl)
