def wp_X9_isQuiet (b1 : Int32) (b2 : Int32) (z : St) (P : Int32 → St → Prop) : Prop :=
  (∀ x1 : Int32, x1 = b2 - b2 / ((24 : Int32)) * ((24 : Int32)) → (∀ K5 : Int32 → Int32 → Int32 → St → Prop, (∀ (v2 : Int32) (v3 : Int32) (v4 : Int32) (z6 : St), ((((gI z6 22) ≤ v4) → ((v2 = 0 ∨ v2 = 1) ∧ P v2 z6)) ∧ (¬ ((gI z6 22) ≤ v4) → (vp_in v4 20 ∧ (∀ K11 : Int32 → Int32 → Int32 → St → Prop, (∀ (v8 : Int32) (v9 : Int32) (v10 : Int32) (z12 : St), (∀ x13 : Int32, x13 = v10 + (1) → K5 v8 v9 x13 z12) → K11 v8 v9 v10 z12) → (((¬ (gF z6 14 v4.toNatClampNeg) = 0) → K11 v2 v3 v4 z6) ∧ ((gF z6 14 v4.toNatClampNeg) = 0 → (vp_in v4 20 ∧ (((¬ (gF z6 15 v4.toNatClampNeg) = b1) → K11 v2 v3 v4 z6) ∧ ((gF z6 15 v4.toNatClampNeg) = b1 → (∀ K19 : Int32 → Int32 → Int32 → St → Prop, (∀ (v16 : Int32) (v17 : Int32) (s18 : Int32) (z20 : St), K11 s18 v16 v17 z20 → K19 v16 v17 s18 z20) → (∀ K23 : Int32 → Int32 → St → Prop, (∀ (v21 : Int32) (v22 : Int32) (z24 : St), K19 v21 v22 ((1 : Int32)) z24 → K23 v21 v22 z24) → (((¬ v2 = 0) → K23 v3 v4 z6) ∧ (v2 = 0 → (vp_in v4 20 ∧ (vp_in v4 20 ∧ (∀ K28 : Int32 → Int32 → St → Prop, (∀ (v26 : Int32) (v27 : Int32) (z29 : St), K19 v26 v27 ((0 : Int32)) z29 → K28 v26 v27 z29) → ((((gF z6 17 v4.toNatClampNeg) < (gF z6 16 v4.toNatClampNeg)) → (vp_in v4 20 ∧ ((((gF z6 16 v4.toNatClampNeg) ≤ v3) → K23 v3 v4 z6) ∧ (¬ ((gF z6 16 v4.toNatClampNeg) ≤ v3) → (vp_in v4 20 ∧ ((((gF z6 17 v4.toNatClampNeg) < v3) → K28 v3 v4 z6) ∧ (¬ ((gF z6 17 v4.toNatClampNeg) < v3) → K23 v3 v4 z6))))))) ∧ (¬ ((gF z6 17 v4.toNatClampNeg) < (gF z6 16 v4.toNatClampNeg)) → (vp_in v4 20 ∧ (vp_in v4 20 ∧ (wp_X9_in (Int32.toInt64 v3) (Int32.toInt64 (gF z6 16 v4.toNatClampNeg)) (Int32.toInt64 (gF z6 17 v4.toNatClampNeg)) z6 (fun r34 z33 => (((r34 = 0) → K28 v3 v4 z33) ∧ (¬ (r34 = 0) → K23 v3 v4 z33)))))))))))))))))))))))) → K5 v2 v3 v4 z6) → K5 ((0 : Int32)) x1 ((0 : Int32)) z))
set_option maxHeartbeats 4000000 in
set_option maxRecDepth 100000 in
theorem m_X9_isQuiet (l : Launch) (D : va_G) (t : Ty3) (a : Nat → Nat) (b1 : Int32) (b2 : Int32) (z : St) (P : Int32 → St → Prop) (hw : wp_X9_isQuiet b1 b2 z P) : CtI l D t yX9_isQuiet cX9_isQuiet 6 (some .boolean) 1 (wM t a) (wM t a z) [.ref (a 0), .int b1, .int b2] P := by
  refine ctI_of (by decide) (Nat.le_of_ble_eq_true rfl) ?_
  intro p e s m args below meth c A ls C hr hlk h hl
  have hl : lv_has ls 6 [(0, .ref (a 0)), (1, .int b1), (2, .int b2)] := hl
  unfold wp_X9_isQuiet at hw
  refine lv_iconst (v := 0) (pc := 0) C.1 C.2.1 dX9_isQuiet_0 (by decide) ?_
  refine lv_istore_n (lv' := [(3, .int ((0 : Int32))), (0, .ref (a 0)), (1, .int b1), (2, .int b2)]) (pc := 1) C.1 C.2.1 dX9_isQuiet_1 rfl hl (by decide) rfl (fun ls hl => ?_)
  refine lv_iload_n (pc := 2) C.1 C.2.1 dX9_isQuiet_2 rfl (lv_at hl 3 rfl) ?_
  refine lv_bipush (v := 24) (pc := 3) C.1 C.2.1 dX9_isQuiet_3 (by decide) ?_
  refine lv_irem (pc := 5) C.1 C.2.1 dX9_isQuiet_5 (by decide) ?_
  refine lv_topi (fun x1 ex1 => ?_)
  have hw := hw x1 ex1
  refine lv_istore (lv' := [(4, .int x1), (3, .int ((0 : Int32))), (0, .ref (a 0)), (1, .int b1), (2, .int b2)]) (pc := 6) C.1 C.2.1 dX9_isQuiet_6 hl (by decide) rfl (fun ls hl => ?_)
  refine lv_iconst (v := 0) (pc := 8) C.1 C.2.1 dX9_isQuiet_8 (by decide) ?_
  have hw := hw (fun (v2 : Int32) (v3 : Int32) (v4 : Int32) (z6 : St) => ∀ (H : Heap) (locs : List Loc) (ls : Array Slot), wd D t A s (wM t a z6) H locs → lv_has ls 6 [(0, .ref (a 0)), (1, .int b1), (3, .int v2), (4, .int v3), (5, .int v4)] → W p l e (rmd 1) s m args below meth c H locs 0 0 (QI D t A (wM t a) P below args s) (F0 m 11 ls [])) (by
      intro v2 v3 v4 z6 hw H locs ls h hl
      refine lv_iload (pc := 11) C.1 C.2.1 dX9_isQuiet_11 (lv_at hl 4 rfl) ?_
      refine lv_aload_n (pc := 13) C.1 C.2.1 dX9_isQuiet_13 rfl (lv_at hl 0 rfl) ?_
      refine GM_X9_207_0 (pc := 14) C h dX9_isQuiet_14 ?_
      refine lv_icmp_ge (tgt := 126) (pc := 17) C.1 C.2.1 dX9_isQuiet_17 (by decide) (fun c7 => ?_) (fun c7 => ?_)
      · have hw := hw.1 c7
        refine lv_iload_n (pc := 126) C.1 C.2.1 dX9_isQuiet_126 rfl (lv_at hl 2 rfl) ?_
        exact rt_z (pc := 127) C hr hlk h hw.1 hw.2 dX9_isQuiet_127
      · have hw := hw.2 c7
        refine lv_aload_n (pc := 20) C.1 C.2.1 dX9_isQuiet_20 rfl (lv_at hl 0 rfl) ?_
        refine GM_X9_57_0 (pc := 21) C h dX9_isQuiet_21 ?_
        refine lv_iload (pc := 24) C.1 C.2.1 dX9_isQuiet_24 (lv_at hl 4 rfl) ?_
        refine ldM_14 (pc := 26) C h hw.1 dX9_isQuiet_26 ?_
        have hw := hw.2
        have hw := hw (fun (v8 : Int32) (v9 : Int32) (v10 : Int32) (z12 : St) => ∀ (H : Heap) (locs : List Loc) (ls : Array Slot), wd D t A s (wM t a z12) H locs → lv_has ls 6 [(0, .ref (a 0)), (1, .int b1), (3, .int v8), (4, .int v9), (5, .int v10)] → W p l e (rmd 1) s m args below meth c H locs 0 0 (QI D t A (wM t a) P below args s) (F0 m 120 ls [])) (by
            intro v8 v9 v10 z12 hw H locs ls h hl
            obtain ⟨x13, ex13⟩ : ∃ y : Int32, y = v10 + (1) := ⟨_, rfl⟩
            have hw := hw x13 ex13
            refine lv_iinc (v := x13) (lv' := [(5, .int x13), (0, .ref (a 0)), (1, .int b1), (3, .int v8), (4, .int v9)]) (pc := 120) C.1 C.2.1 dX9_isQuiet_120 hl (k := 4) rfl (by rw [ex13]; rfl) (by decide) rfl (fun ls hl => ?_)
            refine lv_goto (tgt := 11) (pc := 123) C.1 C.2.1 dX9_isQuiet_123 (by decide) ?_
            exact hw _ _ _ h (lv_sub hl [1, 2, 3, 4, 0] rfl))
        refine lv_if_ne (tgt := 120) (pc := 27) C.1 C.2.1 dX9_isQuiet_27 (by decide) (fun c14 => ?_) (fun c14 => ?_)
        · have hw := hw.1 c14
          exact hw _ _ _ h (lv_sub hl [0, 1, 2, 3, 4] rfl)
        · have hw := hw.2 c14
          refine lv_aload_n (pc := 30) C.1 C.2.1 dX9_isQuiet_30 rfl (lv_at hl 0 rfl) ?_
          refine GM_X9_60_0 (pc := 31) C h dX9_isQuiet_31 ?_
          refine lv_iload (pc := 34) C.1 C.2.1 dX9_isQuiet_34 (lv_at hl 4 rfl) ?_
          refine ldM_15 (pc := 36) C h hw.1 dX9_isQuiet_36 ?_
          have hw := hw.2
          refine lv_iload_n (pc := 37) C.1 C.2.1 dX9_isQuiet_37 rfl (lv_at hl 1 rfl) ?_
          refine lv_icmp_ne (tgt := 120) (pc := 38) C.1 C.2.1 dX9_isQuiet_38 (by decide) (fun c15 => ?_) (fun c15 => ?_)
          · have hw := hw.1 c15
            exact hw _ _ _ h (lv_sub hl [0, 1, 2, 3, 4] rfl)
          · have hw := hw.2 c15
            refine lv_iload_n (pc := 41) C.1 C.2.1 dX9_isQuiet_41 rfl (lv_at hl 2 rfl) ?_
            have hw := hw (fun (v16 : Int32) (v17 : Int32) (s18 : Int32) (z20 : St) => ∀ (H : Heap) (locs : List Loc) (ls : Array Slot), wd D t A s (wM t a z20) H locs → lv_has ls 6 [(0, .ref (a 0)), (1, .int b1), (4, .int v16), (5, .int v17)] → W p l e (rmd 1) s m args below meth c H locs 0 0 (QI D t A (wM t a) P below args s) (F0 m 119 ls [.int s18])) (by
                intro v16 v17 s18 z20 hw H locs ls h hl
                refine lv_istore_n (lv' := [(3, .int s18), (0, .ref (a 0)), (1, .int b1), (4, .int v16), (5, .int v17)]) (pc := 119) C.1 C.2.1 dX9_isQuiet_119 rfl hl (by decide) rfl (fun ls hl => ?_)
                exact hw _ _ _ h (lv_sub hl [1, 2, 0, 3, 4] rfl))
            have hw := hw (fun (v21 : Int32) (v22 : Int32) (z24 : St) => ∀ (H : Heap) (locs : List Loc) (ls : Array Slot), wd D t A s (wM t a z24) H locs → lv_has ls 6 [(0, .ref (a 0)), (1, .int b1), (4, .int v21), (5, .int v22)] → W p l e (rmd 1) s m args below meth c H locs 0 0 (QI D t A (wM t a) P below args s) (F0 m 114 ls [])) (by
                intro v21 v22 z24 hw H locs ls h hl
                refine lv_iconst (v := 1) (pc := 114) C.1 C.2.1 dX9_isQuiet_114 (by decide) ?_
                refine lv_goto (tgt := 119) (pc := 115) C.1 C.2.1 dX9_isQuiet_115 (by decide) ?_
                exact hw _ _ _ h (lv_sub hl [0, 1, 2, 3] rfl))
            refine lv_if_ne (tgt := 114) (pc := 42) C.1 C.2.1 dX9_isQuiet_42 (by decide) (fun c25 => ?_) (fun c25 => ?_)
            · have hw := hw.1 c25
              exact hw _ _ _ h (lv_sub hl [0, 1, 3, 4] rfl)
            · have hw := hw.2 c25
              refine lv_aload_n (pc := 45) C.1 C.2.1 dX9_isQuiet_45 rfl (lv_at hl 0 rfl) ?_
              refine GM_X9_63_0 (pc := 46) C h dX9_isQuiet_46 ?_
              refine lv_iload (pc := 49) C.1 C.2.1 dX9_isQuiet_49 (lv_at hl 4 rfl) ?_
              refine ldM_16 (pc := 51) C h hw.1 dX9_isQuiet_51 ?_
              have hw := hw.2
              refine lv_aload_n (pc := 52) C.1 C.2.1 dX9_isQuiet_52 rfl (lv_at hl 0 rfl) ?_
              refine GM_X9_66_0 (pc := 53) C h dX9_isQuiet_53 ?_
              refine lv_iload (pc := 56) C.1 C.2.1 dX9_isQuiet_56 (lv_at hl 4 rfl) ?_
              refine ldM_17 (pc := 58) C h hw.1 dX9_isQuiet_58 ?_
              have hw := hw.2
              have hw := hw (fun (v26 : Int32) (v27 : Int32) (z29 : St) => ∀ (H : Heap) (locs : List Loc) (ls : Array Slot), wd D t A s (wM t a z29) H locs → lv_has ls 6 [(0, .ref (a 0)), (1, .int b1), (4, .int v26), (5, .int v27)] → W p l e (rmd 1) s m args below meth c H locs 0 0 (QI D t A (wM t a) P below args s) (F0 m 118 ls [])) (by
                  intro v26 v27 z29 hw H locs ls h hl
                  refine lv_iconst (v := 0) (pc := 118) C.1 C.2.1 dX9_isQuiet_118 (by decide) ?_
                  exact hw _ _ _ h (lv_sub hl [0, 1, 2, 3] rfl))
              refine lv_icmp_gt (tgt := 90) (pc := 59) C.1 C.2.1 dX9_isQuiet_59 (by decide) (fun c30 => ?_) (fun c30 => ?_)
              · have hw := hw.1 c30
                refine lv_iload (pc := 90) C.1 C.2.1 dX9_isQuiet_90 (lv_at hl 3 rfl) ?_
                refine lv_aload_n (pc := 92) C.1 C.2.1 dX9_isQuiet_92 rfl (lv_at hl 0 rfl) ?_
                refine GM_X9_63_0 (pc := 93) C h dX9_isQuiet_93 ?_
                refine lv_iload (pc := 96) C.1 C.2.1 dX9_isQuiet_96 (lv_at hl 4 rfl) ?_
                refine ldM_16 (pc := 98) C h hw.1 dX9_isQuiet_98 ?_
                have hw := hw.2
                refine lv_icmp_ge (tgt := 114) (pc := 99) C.1 C.2.1 dX9_isQuiet_99 (by decide) (fun c31 => ?_) (fun c31 => ?_)
                · have hw := hw.1 c31
                  exact hw _ _ _ h (lv_sub hl [0, 1, 3, 4] rfl)
                · have hw := hw.2 c31
                  refine lv_iload (pc := 102) C.1 C.2.1 dX9_isQuiet_102 (lv_at hl 3 rfl) ?_
                  refine lv_aload_n (pc := 104) C.1 C.2.1 dX9_isQuiet_104 rfl (lv_at hl 0 rfl) ?_
                  refine GM_X9_66_0 (pc := 105) C h dX9_isQuiet_105 ?_
                  refine lv_iload (pc := 108) C.1 C.2.1 dX9_isQuiet_108 (lv_at hl 4 rfl) ?_
                  refine ldM_17 (pc := 110) C h hw.1 dX9_isQuiet_110 ?_
                  have hw := hw.2
                  refine lv_icmp_gt (tgt := 118) (pc := 111) C.1 C.2.1 dX9_isQuiet_111 (by decide) (fun c32 => ?_) (fun c32 => ?_)
                  · have hw := hw.1 c32
                    exact hw _ _ _ h (lv_sub hl [0, 1, 3, 4] rfl)
                  · have hw := hw.2 c32
                    exact hw _ _ _ h (lv_sub hl [0, 1, 3, 4] rfl)
              · have hw := hw.2 c30
                refine lv_iload (pc := 62) C.1 C.2.1 dX9_isQuiet_62 (lv_at hl 3 rfl) ?_
                refine lv_i2l (pc := 64) C.1 C.2.1 dX9_isQuiet_64 rfl ?_
                refine lv_aload_n (pc := 65) C.1 C.2.1 dX9_isQuiet_65 rfl (lv_at hl 0 rfl) ?_
                refine GM_X9_63_0 (pc := 66) C h dX9_isQuiet_66 ?_
                refine lv_iload (pc := 69) C.1 C.2.1 dX9_isQuiet_69 (lv_at hl 4 rfl) ?_
                refine ldM_16 (pc := 71) C h hw.1 dX9_isQuiet_71 ?_
                have hw := hw.2
                refine lv_i2l (pc := 72) C.1 C.2.1 dX9_isQuiet_72 rfl ?_
                refine lv_aload_n (pc := 73) C.1 C.2.1 dX9_isQuiet_73 rfl (lv_at hl 0 rfl) ?_
                refine GM_X9_66_0 (pc := 74) C h dX9_isQuiet_74 ?_
                refine lv_iload (pc := 77) C.1 C.2.1 dX9_isQuiet_77 (lv_at hl 4 rfl) ?_
                refine ldM_17 (pc := 79) C h hw.1 dX9_isQuiet_79 ?_
                have hw := hw.2
                refine lv_i2l (pc := 80) C.1 C.2.1 dX9_isQuiet_80 rfl ?_
                refine cl_si (pc := 81) (As := [.long (Int32.toInt64 v3), .long (Int32.toInt64 (gF z6 16 v4.toNatClampNeg)), .long (Int32.toInt64 (gF z6 17 v4.toNatClampNeg))]) (rest := []) C h (m_X9_in l D t a (Int32.toInt64 v3) (Int32.toInt64 (gF z6 16 v4.toNatClampNeg)) (Int32.toInt64 (gF z6 17 v4.toNatClampNeg)) z6 _ hw) mw_X9_in lm_X9_139 md_X9_in ⟨by decide, by decide⟩ ⟨Nat.zero_le _, Nat.zero_le _⟩ hl.1 rfl (Nat.le_of_ble_eq_true rfl) dX9_isQuiet_81 (fun r34 z33 H locs hw h => ?_)
                refine lv_if_eq (tgt := 118) (pc := 84) C.1 C.2.1 dX9_isQuiet_84 (by decide) (fun c35 => ?_) (fun c35 => ?_)
                · have hw := hw.1 c35
                  exact hw _ _ _ h (lv_sub hl [0, 1, 3, 4] rfl)
                · have hw := hw.2 c35
                  refine lv_goto (tgt := 114) (pc := 87) C.1 C.2.1 dX9_isQuiet_87 (by decide) ?_
                  exact hw _ _ _ h (lv_sub hl [0, 1, 3, 4] rfl))
  refine lv_istore (lv' := [(5, .int ((0 : Int32))), (4, .int x1), (3, .int ((0 : Int32))), (0, .ref (a 0)), (1, .int b1), (2, .int b2)]) (pc := 9) C.1 C.2.1 dX9_isQuiet_9 hl (by decide) rfl (fun ls hl => ?_)
  exact hw _ _ _ h (lv_sub hl [3, 4, 2, 1, 0] rfl)

def wp_X9_nowOf (b1 : Int32) (z : St) (P : Int32 → St → Prop) : Prop :=
  (∀ K1 : St → Prop, (∀ (z2 : St), (vp_in b1 168 ∧ P (gF z2 13 b1.toNatClampNeg) z2) → K1 z2) → (((¬ (gI z 21) = 0) → K1 z) ∧ ((gI z 21) = 0 → (∀ K5 : Int32 → St → Prop, (∀ (v4 : Int32) (z6 : St), (((((168 : Int32)) ≤ v4) → (∀ K9 : Int32 → St → Prop, (∀ (v8 : Int32) (z10 : St), ((((gI z10 3) ≤ v8) → (∀ z12 : St, z12 = wI z10 21 ((1 : Int32)) → K1 z12)) ∧ (¬ ((gI z10 3) ≤ v8) → (vp_in v8 400 ∧ (vp_in v8 400 ∧ (∀ K16 : Int32 → Int32 → Int32 → St → Prop, (∀ (v13 : Int32) (s14 : Int32) (s15 : Int32) (z17 : St), (vp_in s15 168 ∧ (∀ z18 : St, z18 = wR z17 13 (upd (gF z17 13) s15.toNatClampNeg s14) → (∀ x19 : Int32, x19 = v13 + (1) → K9 x19 z18))) → K16 v13 s14 s15 z17) → ((((gI z10 2) < (gF z10 3 v8.toNatClampNeg)) → (vp_in v8 400 ∧ (vp_in (gF z10 1 v8.toNatClampNeg) 168 ∧ K16 v8 (gF z10 13 (gF z10 1 v8.toNatClampNeg).toNatClampNeg) (gF z10 1 v8.toNatClampNeg) z10))) ∧ (¬ ((gI z10 2) < (gF z10 3 v8.toNatClampNeg)) → (vp_in v8 400 ∧ K16 v8 (gF z10 2 v8.toNatClampNeg) (gF z10 1 v8.toNatClampNeg) z10)))))))) → K9 v8 z10) → K9 ((0 : Int32)) z6)) ∧ (¬ (((168 : Int32)) ≤ v4) → (vp_in v4 168 ∧ (∀ z21 : St, z21 = wR z6 13 (upd (gF z6 13) v4.toNatClampNeg (gI z6 7)) → (∀ x22 : Int32, x22 = v4 + (1) → K5 x22 z21))))) → K5 v4 z6) → K5 ((0 : Int32)) z))))
set_option maxHeartbeats 4000000 in
set_option maxRecDepth 100000 in
theorem m_X9_nowOf (l : Launch) (D : va_G) (t : Ty3) (a : Nat → Nat) (b1 : Int32) (z : St) (P : Int32 → St → Prop) (hw : wp_X9_nowOf b1 z P) : CtI l D t yX9_nowOf cX9_nowOf 3 (some .int) 0 (wM t a) (wM t a z) [.ref (a 0), .int b1] P := by
  refine ctI_of (by decide) (Nat.le_of_ble_eq_true rfl) ?_
  intro p e s m args below meth c A ls C hr hlk h hl
  have hl : lv_has ls 3 [(0, .ref (a 0)), (1, .int b1)] := hl
  unfold wp_X9_nowOf at hw
  refine lv_aload_n (pc := 0) C.1 C.2.1 dX9_nowOf_0 rfl (lv_at hl 0 rfl) ?_
  refine GM_X9_169_0 (pc := 1) C h dX9_nowOf_1 ?_
  have hw := hw (fun (z2 : St) => ∀ (H : Heap) (locs : List Loc) (ls : Array Slot), wd D t A s (wM t a z2) H locs → lv_has ls 3 [(0, .ref (a 0)), (1, .int b1)] → W p l e (rmd 0) s m args below meth c H locs 0 0 (QI D t A (wM t a) P below args s) (F0 m 97 ls [])) (by
      intro z2 hw H locs ls h hl
      refine lv_aload_n (pc := 97) C.1 C.2.1 dX9_nowOf_97 rfl (lv_at hl 0 rfl) ?_
      refine GM_X9_54_0 (pc := 98) C h dX9_nowOf_98 ?_
      refine lv_iload_n (pc := 101) C.1 C.2.1 dX9_nowOf_101 rfl (lv_at hl 1 rfl) ?_
      refine ldM_13 (pc := 102) C h hw.1 dX9_nowOf_102 ?_
      have hw := hw.2
      exact rt_i (pc := 103) C hr hlk h hw dX9_nowOf_103)
  refine lv_if_ne (tgt := 97) (pc := 4) C.1 C.2.1 dX9_nowOf_4 (by decide) (fun c3 => ?_) (fun c3 => ?_)
  · have hw := hw.1 c3
    exact hw _ _ _ h (lv_sub hl [0, 1] rfl)
  · have hw := hw.2 c3
    refine lv_iconst (v := 0) (pc := 7) C.1 C.2.1 dX9_nowOf_7 (by decide) ?_
    have hw := hw (fun (v4 : Int32) (z6 : St) => ∀ (H : Heap) (locs : List Loc) (ls : Array Slot), wd D t A s (wM t a z6) H locs → lv_has ls 3 [(0, .ref (a 0)), (1, .int b1), (2, .int v4)] → W p l e (rmd 0) s m args below meth c H locs 0 0 (QI D t A (wM t a) P below args s) (F0 m 9 ls [])) (by
        intro v4 z6 hw H locs ls h hl
        refine lv_iload_n (pc := 9) C.1 C.2.1 dX9_nowOf_9 rfl (lv_at hl 2 rfl) ?_
        refine lv_sipush (v := 168) (pc := 10) C.1 C.2.1 dX9_nowOf_10 (by decide) ?_
        refine lv_icmp_ge (tgt := 32) (pc := 13) C.1 C.2.1 dX9_nowOf_13 (by decide) (fun c7 => ?_) (fun c7 => ?_)
        · have hw := hw.1 c7
          refine lv_iconst (v := 0) (pc := 32) C.1 C.2.1 dX9_nowOf_32 (by decide) ?_
          have hw := hw (fun (v8 : Int32) (z10 : St) => ∀ (H : Heap) (locs : List Loc) (ls : Array Slot), wd D t A s (wM t a z10) H locs → lv_has ls 3 [(0, .ref (a 0)), (1, .int b1), (2, .int v8)] → W p l e (rmd 0) s m args below meth c H locs 0 0 (QI D t A (wM t a) P below args s) (F0 m 34 ls [])) (by
              intro v8 z10 hw H locs ls h hl
              refine lv_iload_n (pc := 34) C.1 C.2.1 dX9_nowOf_34 rfl (lv_at hl 2 rfl) ?_
              refine lv_aload_n (pc := 35) C.1 C.2.1 dX9_nowOf_35 rfl (lv_at hl 0 rfl) ?_
              refine GM_X9_166_0 (pc := 36) C h dX9_nowOf_36 ?_
              refine lv_icmp_ge (tgt := 92) (pc := 39) C.1 C.2.1 dX9_nowOf_39 (by decide) (fun c11 => ?_) (fun c11 => ?_)
              · have hw := hw.1 c11
                refine lv_aload_n (pc := 92) C.1 C.2.1 dX9_nowOf_92 rfl (lv_at hl 0 rfl) ?_
                refine lv_iconst (v := 1) (pc := 93) C.1 C.2.1 dX9_nowOf_93 (by decide) ?_
                refine PM_X9_169_0 (pc := 94) C h (Or.inr rfl) dX9_nowOf_94 (fun z12 ez12 H locs h => ?_)
                have hw := hw z12 ez12
                exact hw _ _ _ h (lv_sub hl [0, 1] rfl)
              · have hw := hw.2 c11
                refine lv_aload_n (pc := 42) C.1 C.2.1 dX9_nowOf_42 rfl (lv_at hl 0 rfl) ?_
                refine GM_X9_54_0 (pc := 43) C h dX9_nowOf_43 ?_
                refine lv_aload_n (pc := 46) C.1 C.2.1 dX9_nowOf_46 rfl (lv_at hl 0 rfl) ?_
                refine GM_X9_7_0 (pc := 47) C h dX9_nowOf_47 ?_
                refine lv_iload_n (pc := 50) C.1 C.2.1 dX9_nowOf_50 rfl (lv_at hl 2 rfl) ?_
                refine ldM_1 (pc := 51) C h hw.1 dX9_nowOf_51 ?_
                have hw := hw.2
                refine lv_aload_n (pc := 52) C.1 C.2.1 dX9_nowOf_52 rfl (lv_at hl 0 rfl) ?_
                refine GM_X9_16_0 (pc := 53) C h dX9_nowOf_53 ?_
                refine lv_iload_n (pc := 56) C.1 C.2.1 dX9_nowOf_56 rfl (lv_at hl 2 rfl) ?_
                refine ldM_3 (pc := 57) C h hw.1 dX9_nowOf_57 ?_
                have hw := hw.2
                refine lv_aload_n (pc := 58) C.1 C.2.1 dX9_nowOf_58 rfl (lv_at hl 0 rfl) ?_
                refine GM_X9_173_0 (pc := 59) C h dX9_nowOf_59 ?_
                have hw := hw (fun (v13 : Int32) (s14 : Int32) (s15 : Int32) (z17 : St) => ∀ (H : Heap) (locs : List Loc) (ls : Array Slot), wd D t A s (wM t a z17) H locs → lv_has ls 3 [(0, .ref (a 0)), (1, .int b1), (2, .int v13)] → W p l e (rmd 0) s m args below meth c H locs 0 0 (QI D t A (wM t a) P below args s) (F0 m 85 ls [.int s14, .int s15, .ref (a 13)])) (by
                    intro v13 s14 s15 z17 hw H locs ls h hl
                    refine stM_13 (pc := 85) C h hw.1 dX9_nowOf_85 (fun z18 ez18 H locs h => ?_)
                    have hw := hw.2 z18 ez18
                    obtain ⟨x19, ex19⟩ : ∃ y : Int32, y = v13 + (1) := ⟨_, rfl⟩
                    have hw := hw x19 ex19
                    refine lv_iinc (v := x19) (lv' := [(2, .int x19), (0, .ref (a 0)), (1, .int b1)]) (pc := 86) C.1 C.2.1 dX9_nowOf_86 hl (k := 2) rfl (by rw [ex19]; rfl) (by decide) rfl (fun ls hl => ?_)
                    refine lv_goto (tgt := 34) (pc := 89) C.1 C.2.1 dX9_nowOf_89 (by decide) ?_
                    exact hw _ _ _ h (lv_sub hl [1, 2, 0] rfl))
                refine lv_icmp_gt (tgt := 74) (pc := 62) C.1 C.2.1 dX9_nowOf_62 (by decide) (fun c20 => ?_) (fun c20 => ?_)
                · have hw := hw.1 c20
                  refine lv_aload_n (pc := 74) C.1 C.2.1 dX9_nowOf_74 rfl (lv_at hl 0 rfl) ?_
                  refine GM_X9_54_0 (pc := 75) C h dX9_nowOf_75 ?_
                  refine lv_aload_n (pc := 78) C.1 C.2.1 dX9_nowOf_78 rfl (lv_at hl 0 rfl) ?_
                  refine GM_X9_7_0 (pc := 79) C h dX9_nowOf_79 ?_
                  refine lv_iload_n (pc := 82) C.1 C.2.1 dX9_nowOf_82 rfl (lv_at hl 2 rfl) ?_
                  refine ldM_1 (pc := 83) C h hw.1 dX9_nowOf_83 ?_
                  have hw := hw.2
                  refine ldM_13 (pc := 84) C h hw.1 dX9_nowOf_84 ?_
                  have hw := hw.2
                  exact hw _ _ _ h (lv_sub hl [0, 1, 2] rfl)
                · have hw := hw.2 c20
                  refine lv_aload_n (pc := 65) C.1 C.2.1 dX9_nowOf_65 rfl (lv_at hl 0 rfl) ?_
                  refine GM_X9_13_0 (pc := 66) C h dX9_nowOf_66 ?_
                  refine lv_iload_n (pc := 69) C.1 C.2.1 dX9_nowOf_69 rfl (lv_at hl 2 rfl) ?_
                  refine ldM_2 (pc := 70) C h hw.1 dX9_nowOf_70 ?_
                  have hw := hw.2
                  refine lv_goto (tgt := 85) (pc := 71) C.1 C.2.1 dX9_nowOf_71 (by decide) ?_
                  exact hw _ _ _ h (lv_sub hl [0, 1, 2] rfl))
          refine lv_istore_n (lv' := [(2, .int ((0 : Int32))), (0, .ref (a 0)), (1, .int b1)]) (pc := 33) C.1 C.2.1 dX9_nowOf_33 rfl hl (by decide) rfl (fun ls hl => ?_)
          exact hw _ _ _ h (lv_sub hl [1, 2, 0] rfl)
        · have hw := hw.2 c7
          refine lv_aload_n (pc := 16) C.1 C.2.1 dX9_nowOf_16 rfl (lv_at hl 0 rfl) ?_
          refine GM_X9_54_0 (pc := 17) C h dX9_nowOf_17 ?_
          refine lv_iload_n (pc := 20) C.1 C.2.1 dX9_nowOf_20 rfl (lv_at hl 2 rfl) ?_
          refine lv_aload_n (pc := 21) C.1 C.2.1 dX9_nowOf_21 rfl (lv_at hl 0 rfl) ?_
          refine GM_X9_19_0 (pc := 22) C h dX9_nowOf_22 ?_
          refine stM_13 (pc := 25) C h hw.1 dX9_nowOf_25 (fun z21 ez21 H locs h => ?_)
          have hw := hw.2 z21 ez21
          obtain ⟨x22, ex22⟩ : ∃ y : Int32, y = v4 + (1) := ⟨_, rfl⟩
          have hw := hw x22 ex22
          refine lv_iinc (v := x22) (lv' := [(2, .int x22), (0, .ref (a 0)), (1, .int b1)]) (pc := 26) C.1 C.2.1 dX9_nowOf_26 hl (k := 2) rfl (by rw [ex22]; rfl) (by decide) rfl (fun ls hl => ?_)
          refine lv_goto (tgt := 9) (pc := 29) C.1 C.2.1 dX9_nowOf_29 (by decide) ?_
          exact hw _ _ _ h (lv_sub hl [1, 2, 0] rfl))
    refine lv_istore_n (lv' := [(2, .int ((0 : Int32))), (0, .ref (a 0)), (1, .int b1)]) (pc := 8) C.1 C.2.1 dX9_nowOf_8 rfl hl (by decide) rfl (fun ls hl => ?_)
    exact hw _ _ _ h (lv_sub hl [1, 2, 0] rfl)

def wp_X9_isDear (b1 : Int32) (z : St) (P : Int32 → St → Prop) : Prop :=
  (∀ K3 : Int32 → Int32 → St → Prop, (∀ (v1 : Int32) (v2 : Int32) (z4 : St), ((((gI z4 22) ≤ v2) → ((v1 = 0 ∨ v1 = 1) ∧ P v1 z4)) ∧ (¬ ((gI z4 22) ≤ v2) → (∀ K8 : Int32 → Int32 → St → Prop, (∀ (v6 : Int32) (s7 : Int32) (z9 : St), (∀ x10 : Int32, x10 = v6 + (1) → K3 s7 x10 z9) → K8 v6 s7 z9) → (∀ K12 : Int32 → St → Prop, (∀ (v11 : Int32) (z13 : St), K8 v11 ((1 : Int32)) z13 → K12 v11 z13) → (((¬ v1 = 0) → K12 v2 z4) ∧ (v1 = 0 → (vp_in v2 20 ∧ (∀ K16 : Int32 → St → Prop, (∀ (v15 : Int32) (z17 : St), K8 v15 ((0 : Int32)) z17 → K16 v15 z17) → (((¬ (gF z4 14 v2.toNatClampNeg) = ((1 : Int32))) → K16 v2 z4) ∧ ((gF z4 14 v2.toNatClampNeg) = ((1 : Int32)) → (wp_X9_nowOf b1 z4 (fun r20 z19 => (vp_in v2 20 ∧ (((r20 ≤ (gF z19 15 v2.toNatClampNeg)) → K16 v2 z19) ∧ (¬ (r20 ≤ (gF z19 15 v2.toNatClampNeg)) → K12 v2 z19))))))))))))))) → K3 v1 v2 z4) → K3 ((0 : Int32)) ((0 : Int32)) z)
set_option maxHeartbeats 4000000 in
set_option maxRecDepth 100000 in
theorem m_X9_isDear (l : Launch) (D : va_G) (t : Ty3) (a : Nat → Nat) (b1 : Int32) (z : St) (P : Int32 → St → Prop) (hw : wp_X9_isDear b1 z P) : CtI l D t yX9_isDear cX9_isDear 4 (some .boolean) 1 (wM t a) (wM t a z) [.ref (a 0), .int b1] P := by
  refine ctI_of (by decide) (Nat.le_of_ble_eq_true rfl) ?_
  intro p e s m args below meth c A ls C hr hlk h hl
  have hl : lv_has ls 4 [(0, .ref (a 0)), (1, .int b1)] := hl
  unfold wp_X9_isDear at hw
  refine lv_iconst (v := 0) (pc := 0) C.1 C.2.1 dX9_isDear_0 (by decide) ?_
  refine lv_istore_n (lv' := [(2, .int ((0 : Int32))), (0, .ref (a 0)), (1, .int b1)]) (pc := 1) C.1 C.2.1 dX9_isDear_1 rfl hl (by decide) rfl (fun ls hl => ?_)
  refine lv_iconst (v := 0) (pc := 2) C.1 C.2.1 dX9_isDear_2 (by decide) ?_
  have hw := hw (fun (v1 : Int32) (v2 : Int32) (z4 : St) => ∀ (H : Heap) (locs : List Loc) (ls : Array Slot), wd D t A s (wM t a z4) H locs → lv_has ls 4 [(0, .ref (a 0)), (1, .int b1), (2, .int v1), (3, .int v2)] → W p l e (rmd 1) s m args below meth c H locs 0 0 (QI D t A (wM t a) P below args s) (F0 m 4 ls [])) (by
      intro v1 v2 z4 hw H locs ls h hl
      refine lv_iload_n (pc := 4) C.1 C.2.1 dX9_isDear_4 rfl (lv_at hl 3 rfl) ?_
      refine lv_aload_n (pc := 5) C.1 C.2.1 dX9_isDear_5 rfl (lv_at hl 0 rfl) ?_
      refine GM_X9_207_0 (pc := 6) C h dX9_isDear_6 ?_
      refine lv_icmp_ge (tgt := 52) (pc := 9) C.1 C.2.1 dX9_isDear_9 (by decide) (fun c5 => ?_) (fun c5 => ?_)
      · have hw := hw.1 c5
        refine lv_iload_n (pc := 52) C.1 C.2.1 dX9_isDear_52 rfl (lv_at hl 2 rfl) ?_
        exact rt_z (pc := 53) C hr hlk h hw.1 hw.2 dX9_isDear_53
      · have hw := hw.2 c5
        refine lv_iload_n (pc := 12) C.1 C.2.1 dX9_isDear_12 rfl (lv_at hl 2 rfl) ?_
        have hw := hw (fun (v6 : Int32) (s7 : Int32) (z9 : St) => ∀ (H : Heap) (locs : List Loc) (ls : Array Slot), wd D t A s (wM t a z9) H locs → lv_has ls 4 [(0, .ref (a 0)), (1, .int b1), (3, .int v6)] → W p l e (rmd 1) s m args below meth c H locs 0 0 (QI D t A (wM t a) P below args s) (F0 m 45 ls [.int s7])) (by
            intro v6 s7 z9 hw H locs ls h hl
            refine lv_istore_n (lv' := [(2, .int s7), (0, .ref (a 0)), (1, .int b1), (3, .int v6)]) (pc := 45) C.1 C.2.1 dX9_isDear_45 rfl hl (by decide) rfl (fun ls hl => ?_)
            obtain ⟨x10, ex10⟩ : ∃ y : Int32, y = v6 + (1) := ⟨_, rfl⟩
            have hw := hw x10 ex10
            refine lv_iinc (v := x10) (lv' := [(3, .int x10), (2, .int s7), (0, .ref (a 0)), (1, .int b1)]) (pc := 46) C.1 C.2.1 dX9_isDear_46 hl (k := 3) rfl (by rw [ex10]; rfl) (by decide) rfl (fun ls hl => ?_)
            refine lv_goto (tgt := 4) (pc := 49) C.1 C.2.1 dX9_isDear_49 (by decide) ?_
            exact hw _ _ _ h (lv_sub hl [2, 3, 1, 0] rfl))
        have hw := hw (fun (v11 : Int32) (z13 : St) => ∀ (H : Heap) (locs : List Loc) (ls : Array Slot), wd D t A s (wM t a z13) H locs → lv_has ls 4 [(0, .ref (a 0)), (1, .int b1), (3, .int v11)] → W p l e (rmd 1) s m args below meth c H locs 0 0 (QI D t A (wM t a) P below args s) (F0 m 40 ls [])) (by
            intro v11 z13 hw H locs ls h hl
            refine lv_iconst (v := 1) (pc := 40) C.1 C.2.1 dX9_isDear_40 (by decide) ?_
            refine lv_goto (tgt := 45) (pc := 41) C.1 C.2.1 dX9_isDear_41 (by decide) ?_
            exact hw _ _ _ h (lv_sub hl [0, 1, 2] rfl))
        refine lv_if_ne (tgt := 40) (pc := 13) C.1 C.2.1 dX9_isDear_13 (by decide) (fun c14 => ?_) (fun c14 => ?_)
        · have hw := hw.1 c14
          exact hw _ _ _ h (lv_sub hl [0, 1, 3] rfl)
        · have hw := hw.2 c14
          refine lv_aload_n (pc := 16) C.1 C.2.1 dX9_isDear_16 rfl (lv_at hl 0 rfl) ?_
          refine GM_X9_57_0 (pc := 17) C h dX9_isDear_17 ?_
          refine lv_iload_n (pc := 20) C.1 C.2.1 dX9_isDear_20 rfl (lv_at hl 3 rfl) ?_
          refine ldM_14 (pc := 21) C h hw.1 dX9_isDear_21 ?_
          have hw := hw.2
          refine lv_iconst (v := 1) (pc := 22) C.1 C.2.1 dX9_isDear_22 (by decide) ?_
          have hw := hw (fun (v15 : Int32) (z17 : St) => ∀ (H : Heap) (locs : List Loc) (ls : Array Slot), wd D t A s (wM t a z17) H locs → lv_has ls 4 [(0, .ref (a 0)), (1, .int b1), (3, .int v15)] → W p l e (rmd 1) s m args below meth c H locs 0 0 (QI D t A (wM t a) P below args s) (F0 m 44 ls [])) (by
              intro v15 z17 hw H locs ls h hl
              refine lv_iconst (v := 0) (pc := 44) C.1 C.2.1 dX9_isDear_44 (by decide) ?_
              exact hw _ _ _ h (lv_sub hl [0, 1, 2] rfl))
          refine lv_icmp_ne (tgt := 44) (pc := 23) C.1 C.2.1 dX9_isDear_23 (by decide) (fun c18 => ?_) (fun c18 => ?_)
          · have hw := hw.1 c18
            exact hw _ _ _ h (lv_sub hl [0, 1, 3] rfl)
          · have hw := hw.2 c18
            refine lv_aload_n (pc := 26) C.1 C.2.1 dX9_isDear_26 rfl (lv_at hl 0 rfl) ?_
            refine lv_iload_n (pc := 27) C.1 C.2.1 dX9_isDear_27 rfl (lv_at hl 1 rfl) ?_
            refine cl_vi (pc := 28) (As := [.int b1]) (rest := []) C h (m_X9_nowOf l D t a b1 z4 _ hw) mw_X9_nowOf lm_X9_210 md_X9_nowOf rcM_0 ⟨by decide, by decide⟩ ⟨Nat.zero_le _, Nat.zero_le _⟩ hl.1 rfl (Nat.le_of_ble_eq_true rfl) dX9_isDear_28 (fun r20 z19 H locs hw h => ?_)
            refine lv_aload_n (pc := 31) C.1 C.2.1 dX9_isDear_31 rfl (lv_at hl 0 rfl) ?_
            refine GM_X9_60_0 (pc := 32) C h dX9_isDear_32 ?_
            refine lv_iload_n (pc := 35) C.1 C.2.1 dX9_isDear_35 rfl (lv_at hl 3 rfl) ?_
            refine ldM_15 (pc := 36) C h hw.1 dX9_isDear_36 ?_
            have hw := hw.2
            refine lv_icmp_le (tgt := 44) (pc := 37) C.1 C.2.1 dX9_isDear_37 (by decide) (fun c21 => ?_) (fun c21 => ?_)
            · have hw := hw.1 c21
              exact hw _ _ _ h (lv_sub hl [0, 1, 3] rfl)
            · have hw := hw.2 c21
              exact hw _ _ _ h (lv_sub hl [0, 1, 3] rfl))
  refine lv_istore_n (lv' := [(3, .int ((0 : Int32))), (2, .int ((0 : Int32))), (0, .ref (a 0)), (1, .int b1)]) (pc := 3) C.1 C.2.1 dX9_isDear_3 rfl hl (by decide) rfl (fun ls hl => ?_)
  exact hw _ _ _ h (lv_sub hl [2, 3, 1, 0] rfl)

def wp_X9_drawnBy (b1 : Int32) (b2 : Int32) (z : St) (P : Int32 → St → Prop) : Prop :=
  (vp_in b1 16 ∧ (∀ x1 : Int32, x1 = b2 - (gF z 12 b1.toNatClampNeg) → (vp_in b1 16 ∧ ((((gF z 11 b1.toNatClampNeg) = 0) → P ((0 : Int32)) z) ∧ (¬ ((gF z 11 b1.toNatClampNeg) = 0) → (vp_in b1 16 ∧ (wp_X9_in (Int32.toInt64 x1) ((0 : Int64)) ((Int32.toInt64 (gF z 9 b1.toNatClampNeg)) - ((1 : Int64))) z (fun r4 z3 => (((r4 = 0) → P ((0 : Int32)) z3) ∧ (¬ (r4 = 0) → (vp_in ((((4 : Int32)) * b1) + x1) 64 ∧ P (gF z3 10 ((((4 : Int32)) * b1) + x1).toNatClampNeg) z3)))))))))))
set_option maxHeartbeats 4000000 in
set_option maxRecDepth 100000 in
theorem m_X9_drawnBy (l : Launch) (D : va_G) (t : Ty3) (a : Nat → Nat) (b1 : Int32) (b2 : Int32) (z : St) (P : Int32 → St → Prop) (hw : wp_X9_drawnBy b1 b2 z P) : CtI l D t yX9_drawnBy cX9_drawnBy 4 (some .int) 1 (wM t a) (wM t a z) [.ref (a 0), .int b1, .int b2] P := by
  refine ctI_of (by decide) (Nat.le_of_ble_eq_true rfl) ?_
  intro p e s m args below meth c A ls C hr hlk h hl
  have hl : lv_has ls 4 [(0, .ref (a 0)), (1, .int b1), (2, .int b2)] := hl
  unfold wp_X9_drawnBy at hw
  refine lv_iload_n (pc := 0) C.1 C.2.1 dX9_drawnBy_0 rfl (lv_at hl 2 rfl) ?_
  refine lv_aload_n (pc := 1) C.1 C.2.1 dX9_drawnBy_1 rfl (lv_at hl 0 rfl) ?_
  refine GM_X9_51_0 (pc := 2) C h dX9_drawnBy_2 ?_
  refine lv_iload_n (pc := 5) C.1 C.2.1 dX9_drawnBy_5 rfl (lv_at hl 1 rfl) ?_
  refine ldM_12 (pc := 6) C h hw.1 dX9_drawnBy_6 ?_
  have hw := hw.2
  refine lv_isub (pc := 7) C.1 C.2.1 dX9_drawnBy_7 ?_
  refine lv_topi (fun x1 ex1 => ?_)
  have hw := hw x1 ex1
  refine lv_istore_n (lv' := [(3, .int x1), (0, .ref (a 0)), (1, .int b1), (2, .int b2)]) (pc := 8) C.1 C.2.1 dX9_drawnBy_8 rfl hl (by decide) rfl (fun ls hl => ?_)
  refine lv_aload_n (pc := 9) C.1 C.2.1 dX9_drawnBy_9 rfl (lv_at hl 1 rfl) ?_
  refine GM_X9_48_0 (pc := 10) C h dX9_drawnBy_10 ?_
  refine lv_iload_n (pc := 13) C.1 C.2.1 dX9_drawnBy_13 rfl (lv_at hl 2 rfl) ?_
  refine ldM_11 (pc := 14) C h hw.1 dX9_drawnBy_14 ?_
  have hw := hw.2
  refine lv_if_eq (tgt := 49) (pc := 15) C.1 C.2.1 dX9_drawnBy_15 (by decide) (fun c2 => ?_) (fun c2 => ?_)
  · have hw := hw.1 c2
    refine lv_iconst (v := 0) (pc := 49) C.1 C.2.1 dX9_drawnBy_49 (by decide) ?_
    exact rt_i (pc := 50) C hr hlk h hw dX9_drawnBy_50
  · have hw := hw.2 c2
    refine lv_iload_n (pc := 18) C.1 C.2.1 dX9_drawnBy_18 rfl (lv_at hl 0 rfl) ?_
    refine lv_i2l (pc := 19) C.1 C.2.1 dX9_drawnBy_19 rfl ?_
    refine lv_lconst (v := 0) (pc := 20) C.1 C.2.1 dX9_drawnBy_20 (by decide) ?_
    refine lv_aload_n (pc := 21) C.1 C.2.1 dX9_drawnBy_21 rfl (lv_at hl 1 rfl) ?_
    refine GM_X9_42_0 (pc := 22) C h dX9_drawnBy_22 ?_
    refine lv_iload_n (pc := 25) C.1 C.2.1 dX9_drawnBy_25 rfl (lv_at hl 2 rfl) ?_
    refine ldM_9 (pc := 26) C h hw.1 dX9_drawnBy_26 ?_
    have hw := hw.2
    refine lv_i2l (pc := 27) C.1 C.2.1 dX9_drawnBy_27 rfl ?_
    refine lv_lconst (v := 1) (pc := 28) C.1 C.2.1 dX9_drawnBy_28 (by decide) ?_
    refine lv_lsub (pc := 29) C.1 C.2.1 dX9_drawnBy_29 ?_
    refine cl_si (pc := 30) (As := [.long (Int32.toInt64 x1), .long ((0 : Int64)), .long ((Int32.toInt64 (gF z 9 b1.toNatClampNeg)) - ((1 : Int64)))]) (rest := []) C h (m_X9_in l D t a (Int32.toInt64 x1) ((0 : Int64)) ((Int32.toInt64 (gF z 9 b1.toNatClampNeg)) - ((1 : Int64))) z _ hw) mw_X9_in lm_X9_139 md_X9_in ⟨by decide, by decide⟩ ⟨Nat.zero_le _, Nat.zero_le _⟩ hl.1 rfl (Nat.le_of_ble_eq_true rfl) dX9_drawnBy_30 (fun r4 z3 H locs hw h => ?_)
    refine lv_if_eq (tgt := 49) (pc := 33) C.1 C.2.1 dX9_drawnBy_33 (by decide) (fun c5 => ?_) (fun c5 => ?_)
    · have hw := hw.1 c5
      refine lv_iconst (v := 0) (pc := 49) C.1 C.2.1 dX9_drawnBy_49 (by decide) ?_
      exact rt_i (pc := 50) C hr hlk h hw dX9_drawnBy_50
    · have hw := hw.2 c5
      refine lv_aload_n (pc := 36) C.1 C.2.1 dX9_drawnBy_36 rfl (lv_at hl 1 rfl) ?_
      refine GM_X9_45_0 (pc := 37) C h dX9_drawnBy_37 ?_
      refine lv_iconst (v := 4) (pc := 40) C.1 C.2.1 dX9_drawnBy_40 (by decide) ?_
      refine lv_iload_n (pc := 41) C.1 C.2.1 dX9_drawnBy_41 rfl (lv_at hl 2 rfl) ?_
      refine lv_imul (pc := 42) C.1 C.2.1 dX9_drawnBy_42 ?_
      refine lv_iload_n (pc := 43) C.1 C.2.1 dX9_drawnBy_43 rfl (lv_at hl 0 rfl) ?_
      refine lv_iadd (pc := 44) C.1 C.2.1 dX9_drawnBy_44 ?_
      refine ldM_10 (pc := 45) C h hw.1 dX9_drawnBy_45 ?_
      have hw := hw.2
      refine lv_goto (tgt := 50) (pc := 46) C.1 C.2.1 dX9_drawnBy_46 (by decide) ?_
      exact rt_i (pc := 50) C hr hlk h hw dX9_drawnBy_50

def wp_X9_loadOf (b1 : Int32) (b2 : Int32) (b3 : Int32) (z : St) (P : Int32 → St → Prop) : Prop :=
  (vp_in ((((24 : Int32)) * b1) + (b2 - b2 / ((24 : Int32)) * ((24 : Int32)))) 96 ∧ (∀ x1 : Int32, x1 = gF z 5 ((((24 : Int32)) * b1) + (b2 - b2 / ((24 : Int32)) * ((24 : Int32)))).toNatClampNeg → (∀ K4 : Int32 → Int32 → St → Prop, (∀ (v2 : Int32) (v3 : Int32) (z5 : St), ((((gI z5 12) ≤ v3) → P v2 z5) ∧ (¬ ((gI z5 12) ≤ v3) → (∀ K10 : Int32 → Int32 → Int32 → St → Prop, (∀ (v7 : Int32) (s8 : Int32) (s9 : Int32) (z11 : St), (∀ x12 : Int32, x12 = s9 + s8 → (∀ x13 : Int32, x13 = v7 + (1) → K4 x12 x13 z11)) → K10 v7 s8 s9 z11) → (∀ K16 : Int32 → Int32 → St → Prop, (∀ (v14 : Int32) (s15 : Int32) (z17 : St), K10 v14 ((0 : Int32)) s15 z17 → K16 v14 s15 z17) → (((v3 = b3) → K16 v3 v2 z5) ∧ (¬ (v3 = b3) → (vp_in v3 16 ∧ (((¬ (gF z5 6 v3.toNatClampNeg) = b1) → K16 v3 v2 z5) ∧ ((gF z5 6 v3.toNatClampNeg) = b1 → (wp_X9_drawnBy v3 b2 z5 (fun r21 z20 => K10 v3 r21 v2 z20))))))))))) → K4 v2 v3 z5) → K4 x1 ((0 : Int32)) z)))
set_option maxHeartbeats 4000000 in
set_option maxRecDepth 100000 in
theorem m_X9_loadOf (l : Launch) (D : va_G) (t : Ty3) (a : Nat → Nat) (b1 : Int32) (b2 : Int32) (b3 : Int32) (z : St) (P : Int32 → St → Prop) (hw : wp_X9_loadOf b1 b2 b3 z P) : CtI l D t yX9_loadOf cX9_loadOf 6 (some .int) 2 (wM t a) (wM t a z) [.ref (a 0), .int b1, .int b2, .int b3] P := by
  refine ctI_of (by decide) (Nat.le_of_ble_eq_true rfl) ?_
  intro p e s m args below meth c A ls C hr hlk h hl
  have hl : lv_has ls 6 [(0, .ref (a 0)), (1, .int b1), (2, .int b2), (3, .int b3)] := hl
  unfold wp_X9_loadOf at hw
  refine lv_aload_n (pc := 0) C.1 C.2.1 dX9_loadOf_0 rfl (lv_at hl 0 rfl) ?_
  refine GM_X9_26_0 (pc := 1) C h dX9_loadOf_1 ?_
  refine lv_bipush (v := 24) (pc := 4) C.1 C.2.1 dX9_loadOf_4 (by decide) ?_
  refine lv_iload_n (pc := 6) C.1 C.2.1 dX9_loadOf_6 rfl (lv_at hl 1 rfl) ?_
  refine lv_imul (pc := 7) C.1 C.2.1 dX9_loadOf_7 ?_
  refine lv_iload_n (pc := 8) C.1 C.2.1 dX9_loadOf_8 rfl (lv_at hl 2 rfl) ?_
  refine lv_bipush (v := 24) (pc := 9) C.1 C.2.1 dX9_loadOf_9 (by decide) ?_
  refine lv_irem (pc := 11) C.1 C.2.1 dX9_loadOf_11 (by decide) ?_
  refine lv_iadd (pc := 12) C.1 C.2.1 dX9_loadOf_12 ?_
  refine ldM_5 (pc := 13) C h hw.1 dX9_loadOf_13 ?_
  have hw := hw.2
  refine lv_topi (fun x1 ex1 => ?_)
  have hw := hw x1 ex1
  refine lv_istore (lv' := [(4, .int x1), (0, .ref (a 0)), (1, .int b1), (2, .int b2), (3, .int b3)]) (pc := 14) C.1 C.2.1 dX9_loadOf_14 hl (by decide) rfl (fun ls hl => ?_)
  refine lv_iconst (v := 0) (pc := 16) C.1 C.2.1 dX9_loadOf_16 (by decide) ?_
  have hw := hw (fun (v2 : Int32) (v3 : Int32) (z5 : St) => ∀ (H : Heap) (locs : List Loc) (ls : Array Slot), wd D t A s (wM t a z5) H locs → lv_has ls 6 [(0, .ref (a 0)), (1, .int b1), (2, .int b2), (3, .int b3), (4, .int v2), (5, .int v3)] → W p l e (rmd 2) s m args below meth c H locs 0 0 (QI D t A (wM t a) P below args s) (F0 m 19 ls [])) (by
      intro v2 v3 z5 hw H locs ls h hl
      refine lv_iload (pc := 19) C.1 C.2.1 dX9_loadOf_19 (lv_at hl 5 rfl) ?_
      refine lv_aload_n (pc := 21) C.1 C.2.1 dX9_loadOf_21 rfl (lv_at hl 0 rfl) ?_
      refine GM_X9_148_0 (pc := 22) C h dX9_loadOf_22 ?_
      refine lv_icmp_ge (tgt := 67) (pc := 25) C.1 C.2.1 dX9_loadOf_25 (by decide) (fun c6 => ?_) (fun c6 => ?_)
      · have hw := hw.1 c6
        refine lv_iload (pc := 67) C.1 C.2.1 dX9_loadOf_67 (lv_at hl 4 rfl) ?_
        exact rt_i (pc := 69) C hr hlk h hw dX9_loadOf_69
      · have hw := hw.2 c6
        refine lv_iload (pc := 28) C.1 C.2.1 dX9_loadOf_28 (lv_at hl 4 rfl) ?_
        refine lv_iload (pc := 30) C.1 C.2.1 dX9_loadOf_30 (lv_at hl 5 rfl) ?_
        refine lv_iload_n (pc := 32) C.1 C.2.1 dX9_loadOf_32 rfl (lv_at hl 3 rfl) ?_
        have hw := hw (fun (v7 : Int32) (s8 : Int32) (s9 : Int32) (z11 : St) => ∀ (H : Heap) (locs : List Loc) (ls : Array Slot), wd D t A s (wM t a z11) H locs → lv_has ls 6 [(0, .ref (a 0)), (1, .int b1), (2, .int b2), (3, .int b3), (5, .int v7)] → W p l e (rmd 2) s m args below meth c H locs 0 0 (QI D t A (wM t a) P below args s) (F0 m 58 ls [.int s8, .int s9])) (by
            intro v7 s8 s9 z11 hw H locs ls h hl
            refine lv_iadd (pc := 58) C.1 C.2.1 dX9_loadOf_58 ?_
            refine lv_topi (fun x12 ex12 => ?_)
            have hw := hw x12 ex12
            refine lv_istore (lv' := [(4, .int x12), (0, .ref (a 0)), (1, .int b1), (2, .int b2), (3, .int b3), (5, .int v7)]) (pc := 59) C.1 C.2.1 dX9_loadOf_59 hl (by decide) rfl (fun ls hl => ?_)
            obtain ⟨x13, ex13⟩ : ∃ y : Int32, y = v7 + (1) := ⟨_, rfl⟩
            have hw := hw x13 ex13
            refine lv_iinc (v := x13) (lv' := [(5, .int x13), (4, .int x12), (0, .ref (a 0)), (1, .int b1), (2, .int b2), (3, .int b3)]) (pc := 61) C.1 C.2.1 dX9_loadOf_61 hl (k := 5) rfl (by rw [ex13]; rfl) (by decide) rfl (fun ls hl => ?_)
            refine lv_goto (tgt := 19) (pc := 64) C.1 C.2.1 dX9_loadOf_64 (by decide) ?_
            exact hw _ _ _ h (lv_sub hl [2, 3, 4, 5, 1, 0] rfl))
        have hw := hw (fun (v14 : Int32) (s15 : Int32) (z17 : St) => ∀ (H : Heap) (locs : List Loc) (ls : Array Slot), wd D t A s (wM t a z17) H locs → lv_has ls 6 [(0, .ref (a 0)), (1, .int b1), (2, .int b2), (3, .int b3), (5, .int v14)] → W p l e (rmd 2) s m args below meth c H locs 0 0 (QI D t A (wM t a) P below args s) (F0 m 57 ls [.int s15])) (by
            intro v14 s15 z17 hw H locs ls h hl
            refine lv_iconst (v := 0) (pc := 57) C.1 C.2.1 dX9_loadOf_57 (by decide) ?_
            exact hw _ _ _ h (lv_sub hl [0, 1, 2, 3, 4] rfl))
        refine lv_icmp_eq (tgt := 57) (pc := 33) C.1 C.2.1 dX9_loadOf_33 (by decide) (fun c18 => ?_) (fun c18 => ?_)
        · have hw := hw.1 c18
          exact hw _ _ _ h (lv_sub hl [0, 1, 2, 3, 5] rfl)
        · have hw := hw.2 c18
          refine lv_aload_n (pc := 36) C.1 C.2.1 dX9_loadOf_36 rfl (lv_at hl 0 rfl) ?_
          refine GM_X9_33_0 (pc := 37) C h dX9_loadOf_37 ?_
          refine lv_iload (pc := 40) C.1 C.2.1 dX9_loadOf_40 (lv_at hl 5 rfl) ?_
          refine ldM_6 (pc := 42) C h hw.1 dX9_loadOf_42 ?_
          have hw := hw.2
          refine lv_iload_n (pc := 43) C.1 C.2.1 dX9_loadOf_43 rfl (lv_at hl 1 rfl) ?_
          refine lv_icmp_ne (tgt := 57) (pc := 44) C.1 C.2.1 dX9_loadOf_44 (by decide) (fun c19 => ?_) (fun c19 => ?_)
          · have hw := hw.1 c19
            exact hw _ _ _ h (lv_sub hl [0, 1, 2, 3, 5] rfl)
          · have hw := hw.2 c19
            refine lv_aload_n (pc := 47) C.1 C.2.1 dX9_loadOf_47 rfl (lv_at hl 0 rfl) ?_
            refine lv_iload (pc := 48) C.1 C.2.1 dX9_loadOf_48 (lv_at hl 5 rfl) ?_
            refine lv_iload_n (pc := 50) C.1 C.2.1 dX9_loadOf_50 rfl (lv_at hl 2 rfl) ?_
            refine cl_vi (pc := 51) (As := [.int v3, .int b2]) (rest := [.int v2]) C h (m_X9_drawnBy l D t a v3 b2 z5 _ hw) mw_X9_drawnBy lm_X9_200 md_X9_drawnBy rcM_0 ⟨by decide, by decide⟩ ⟨Nat.zero_le _, Nat.zero_le _⟩ hl.1 rfl (Nat.le_of_ble_eq_true rfl) dX9_loadOf_51 (fun r21 z20 H locs hw h => ?_)
            refine lv_goto (tgt := 58) (pc := 54) C.1 C.2.1 dX9_loadOf_54 (by decide) ?_
            exact hw _ _ _ h (lv_sub hl [0, 1, 2, 3, 5] rfl))
  refine lv_istore (lv' := [(5, .int ((0 : Int32))), (4, .int x1), (0, .ref (a 0)), (1, .int b1), (2, .int b2), (3, .int b3)]) (pc := 17) C.1 C.2.1 dX9_loadOf_17 hl (by decide) rfl (fun ls hl => ?_)
  exact hw _ _ _ h (lv_sub hl [2, 3, 4, 5, 1, 0] rfl)

def wp_X9_mayBegin (b1 : Int32) (b2 : Int32) (z : St) (P : Int32 → St → Prop) : Prop :=
  (((b2 < (gI z 2)) → P ((0 : Int32)) z) ∧ (¬ (b2 < (gI z 2)) → (vp_in b1 16 ∧ (vp_in b1 16 ∧ (wp_X9_in (Int32.toInt64 b2) (Int32.toInt64 (gF z 7 b1.toNatClampNeg)) (Int32.toInt64 (gF z 8 b1.toNatClampNeg)) z (fun r3 z2 => (((r3 = 0) → P ((0 : Int32)) z2) ∧ (¬ (r3 = 0) → (vp_in b1 16 ∧ ((((b2 + (gF z2 9 b1.toNatClampNeg)) ≤ ((168 : Int32))) → (∀ K7 : Int32 → St → Prop, (∀ (v6 : Int32) (z8 : St), (vp_in b1 16 ∧ ((((gF z8 9 b1.toNatClampNeg) ≤ v6) → (∀ K12 : Int32 → Int32 → St → Prop, (∀ (v10 : Int32) (v11 : Int32) (z13 : St), ((((gI z13 22) ≤ v11) → ((v10 = 0 ∨ v10 = 1) ∧ P v10 z13)) ∧ (¬ ((gI z13 22) ≤ v11) → (vp_in v11 20 ∧ (∀ K17 : Int32 → Int32 → St → Prop, (∀ (v15 : Int32) (v16 : Int32) (z18 : St), (∀ x19 : Int32, x19 = v16 + (1) → K12 v15 x19 z18) → K17 v15 v16 z18) → ((((gF z13 14 v11.toNatClampNeg) = ((2 : Int32))) → (vp_in v11 20 ∧ (∀ K23 : Int32 → Int32 → St → Prop, (∀ (v21 : Int32) (v22 : Int32) (z24 : St), (vp_in v22 20 ∧ (((¬ (gF z24 16 v22.toNatClampNeg) = b1) → K17 v21 v22 z24) ∧ ((gF z24 16 v22.toNatClampNeg) = b1 → (vp_in v22 20 ∧ (wp_X9_isJob (gF z24 15 v22.toNatClampNeg) z24 (fun r27 z26 => (((r27 = 0) → K17 v21 v22 z26) ∧ (¬ (r27 = 0) → (vp_in v22 20 ∧ (vp_in (gF z26 15 v22.toNatClampNeg) 16 ∧ ((((gF z26 11 (gF z26 15 v22.toNatClampNeg).toNatClampNeg) = 0) → K17 v21 v22 z26) ∧ (¬ ((gF z26 11 (gF z26 15 v22.toNatClampNeg).toNatClampNeg) = 0) → (∀ K32 : Int32 → Int32 → St → Prop, (∀ (v30 : Int32) (s31 : Int32) (z33 : St), K17 s31 v30 z33 → K32 v30 s31 z33) → (∀ K35 : Int32 → St → Prop, (∀ (v34 : Int32) (z36 : St), K32 v34 ((0 : Int32)) z36 → K35 v34 z36) → (((v21 = 0) → K35 v22 z26) ∧ (¬ (v21 = 0) → (vp_in v22 20 ∧ (vp_in (gF z26 15 v22.toNatClampNeg) 16 ∧ (vp_in v22 20 ∧ (vp_in (gF z26 15 v22.toNatClampNeg) 16 ∧ (((b2 < ((gF z26 12 (gF z26 15 v22.toNatClampNeg).toNatClampNeg) + (gF z26 9 (gF z26 15 v22.toNatClampNeg).toNatClampNeg))) → K35 v22 z26) ∧ (¬ (b2 < ((gF z26 12 (gF z26 15 v22.toNatClampNeg).toNatClampNeg) + (gF z26 9 (gF z26 15 v22.toNatClampNeg).toNatClampNeg))) → K32 v22 ((1 : Int32)) z26)))))))))))))))))))))) → K23 v21 v22 z24) → (((¬ (gF z13 15 v11.toNatClampNeg) = b1) → K23 v10 v11 z13) ∧ ((gF z13 15 v11.toNatClampNeg) = b1 → (vp_in v11 20 ∧ (wp_X9_isJob (gF z13 16 v11.toNatClampNeg) z13 (fun r41 z40 => (((r41 = 0) → K23 v10 v11 z40) ∧ (¬ (r41 = 0) → (vp_in v11 20 ∧ (vp_in (gF z40 16 v11.toNatClampNeg) 16 ∧ ((((gF z40 11 (gF z40 16 v11.toNatClampNeg).toNatClampNeg) = 0) → K23 v10 v11 z40) ∧ (¬ ((gF z40 11 (gF z40 16 v11.toNatClampNeg).toNatClampNeg) = 0) → (∀ K46 : Int32 → Int32 → St → Prop, (∀ (v44 : Int32) (s45 : Int32) (z47 : St), K23 s45 v44 z47 → K46 v44 s45 z47) → (∀ K49 : Int32 → St → Prop, (∀ (v48 : Int32) (z50 : St), K46 v48 ((0 : Int32)) z50 → K49 v48 z50) → (((v10 = 0) → K49 v11 z40) ∧ (¬ (v10 = 0) → (vp_in v11 20 ∧ (vp_in (gF z40 16 v11.toNatClampNeg) 16 ∧ (vp_in b1 16 ∧ ((((gF z40 12 (gF z40 16 v11.toNatClampNeg).toNatClampNeg) < (b2 + (gF z40 9 b1.toNatClampNeg))) → K49 v11 z40) ∧ (¬ ((gF z40 12 (gF z40 16 v11.toNatClampNeg).toNatClampNeg) < (b2 + (gF z40 9 b1.toNatClampNeg))) → K46 v11 ((1 : Int32)) z40))))))))))))))))))))))) ∧ (¬ ((gF z13 14 v11.toNatClampNeg) = ((2 : Int32))) → K17 v10 v11 z13)))))) → K12 v10 v11 z13) → K12 ((1 : Int32)) ((0 : Int32)) z8)) ∧ (¬ ((gF z8 9 b1.toNatClampNeg) ≤ v6) → (∀ x53 : Int32, x53 = b2 + v6 → (vp_in b1 16 ∧ (wp_X9_isQuiet (gF z8 6 b1.toNatClampNeg) x53 z8 (fun r55 z54 => (((¬ r55 = 0) → P ((0 : Int32)) z54) ∧ (r55 = 0 → (wp_X9_isDear x53 z54 (fun r58 z57 => (((¬ r58 = 0) → P ((0 : Int32)) z57) ∧ (r58 = 0 → (vp_in b1 16 ∧ (wp_X9_loadOf (gF z57 6 b1.toNatClampNeg) x53 b1 z57 (fun r61 z60 => (vp_in ((((4 : Int32)) * b1) + v6) 64 ∧ (vp_in b1 16 ∧ (vp_in (gF z60 6 b1.toNatClampNeg) 4 ∧ ((((r61 + (gF z60 10 ((((4 : Int32)) * b1) + v6).toNatClampNeg)) ≤ (gF z60 4 (gF z60 6 b1.toNatClampNeg).toNatClampNeg)) → (vp_in ((((4 : Int32)) * b1) + v6) 64 ∧ (∀ x63 : Int32, x63 = gF z60 10 ((((4 : Int32)) * b1) + v6).toNatClampNeg → (∀ K68 : Int32 → Int32 → Int32 → Int32 → St → Prop, (∀ (v64 : Int32) (v65 : Int32) (v66 : Int32) (v67 : Int32) (z69 : St), ((((gI z69 8) ≤ v67) → (((v66 ≤ (gI z69 11)) → (∀ x72 : Int32, x72 = v64 + (1) → K7 x72 z69)) ∧ (¬ (v66 ≤ (gI z69 11)) → P ((0 : Int32)) z69))) ∧ (¬ ((gI z69 8) ≤ v67) → (wp_X9_loadOf v67 v65 b1 z69 (fun r74 z73 => (∀ x75 : Int32, x75 = v66 + r74 → (∀ x76 : Int32, x76 = v67 + (1) → K68 v64 v65 x75 x76 z73)))))) → K68 v64 v65 v66 v67 z69) → K68 v6 x53 x63 ((0 : Int32)) z60)))) ∧ (¬ ((r61 + (gF z60 10 ((((4 : Int32)) * b1) + v6).toNatClampNeg)) ≤ (gF z60 4 (gF z60 6 b1.toNatClampNeg).toNatClampNeg)) → P ((0 : Int32)) z60))))))))))))))))))))) → K7 v6 z8) → K7 ((0 : Int32)) z2)) ∧ (¬ ((b2 + (gF z2 9 b1.toNatClampNeg)) ≤ ((168 : Int32))) → P ((0 : Int32)) z2)))))))))))
set_option maxHeartbeats 4000000 in
set_option maxRecDepth 100000 in
theorem m_X9_mayBegin (l : Launch) (D : va_G) (t : Ty3) (a : Nat → Nat) (b1 : Int32) (b2 : Int32) (z : St) (P : Int32 → St → Prop) (hw : wp_X9_mayBegin b1 b2 z P) : CtI l D t yX9_mayBegin cX9_mayBegin 7 (some .boolean) 3 (wM t a) (wM t a z) [.ref (a 0), .int b1, .int b2] P := by
  refine ctI_of (by decide) (Nat.le_of_ble_eq_true rfl) ?_
  intro p e s m args below meth c A ls C hr hlk h hl
  have hl : lv_has ls 7 [(0, .ref (a 0)), (1, .int b1), (2, .int b2)] := hl
  unfold wp_X9_mayBegin at hw
  refine lv_iload_n (pc := 0) C.1 C.2.1 dX9_mayBegin_0 rfl (lv_at hl 2 rfl) ?_
  refine lv_aload_n (pc := 1) C.1 C.2.1 dX9_mayBegin_1 rfl (lv_at hl 0 rfl) ?_
  refine GM_X9_173_0 (pc := 2) C h dX9_mayBegin_2 ?_
  refine lv_icmp_lt (tgt := 44) (pc := 5) C.1 C.2.1 dX9_mayBegin_5 (by decide) (fun c1 => ?_) (fun c1 => ?_)
  · have hw := hw.1 c1
    refine lv_iconst (v := 0) (pc := 44) C.1 C.2.1 dX9_mayBegin_44 (by decide) ?_
    exact rt_z (pc := 45) C hr hlk h (Or.inl rfl) hw dX9_mayBegin_45
  · have hw := hw.2 c1
    refine lv_iload_n (pc := 8) C.1 C.2.1 dX9_mayBegin_8 rfl (lv_at hl 2 rfl) ?_
    refine lv_i2l (pc := 9) C.1 C.2.1 dX9_mayBegin_9 rfl ?_
    refine lv_aload_n (pc := 10) C.1 C.2.1 dX9_mayBegin_10 rfl (lv_at hl 0 rfl) ?_
    refine GM_X9_36_0 (pc := 11) C h dX9_mayBegin_11 ?_
    refine lv_iload_n (pc := 14) C.1 C.2.1 dX9_mayBegin_14 rfl (lv_at hl 1 rfl) ?_
    refine ldM_7 (pc := 15) C h hw.1 dX9_mayBegin_15 ?_
    have hw := hw.2
    refine lv_i2l (pc := 16) C.1 C.2.1 dX9_mayBegin_16 rfl ?_
    refine lv_aload_n (pc := 17) C.1 C.2.1 dX9_mayBegin_17 rfl (lv_at hl 0 rfl) ?_
    refine GM_X9_39_0 (pc := 18) C h dX9_mayBegin_18 ?_
    refine lv_iload_n (pc := 21) C.1 C.2.1 dX9_mayBegin_21 rfl (lv_at hl 1 rfl) ?_
    refine ldM_8 (pc := 22) C h hw.1 dX9_mayBegin_22 ?_
    have hw := hw.2
    refine lv_i2l (pc := 23) C.1 C.2.1 dX9_mayBegin_23 rfl ?_
    refine cl_si (pc := 24) (As := [.long (Int32.toInt64 b2), .long (Int32.toInt64 (gF z 7 b1.toNatClampNeg)), .long (Int32.toInt64 (gF z 8 b1.toNatClampNeg))]) (rest := []) C h (m_X9_in l D t a (Int32.toInt64 b2) (Int32.toInt64 (gF z 7 b1.toNatClampNeg)) (Int32.toInt64 (gF z 8 b1.toNatClampNeg)) z _ hw) mw_X9_in lm_X9_139 md_X9_in ⟨by decide, by decide⟩ ⟨Nat.zero_le _, Nat.zero_le _⟩ hl.1 rfl (Nat.le_of_ble_eq_true rfl) dX9_mayBegin_24 (fun r3 z2 H locs hw h => ?_)
    refine lv_if_eq (tgt := 44) (pc := 27) C.1 C.2.1 dX9_mayBegin_27 (by decide) (fun c4 => ?_) (fun c4 => ?_)
    · have hw := hw.1 c4
      refine lv_iconst (v := 0) (pc := 44) C.1 C.2.1 dX9_mayBegin_44 (by decide) ?_
      exact rt_z (pc := 45) C hr hlk h (Or.inl rfl) hw dX9_mayBegin_45
    · have hw := hw.2 c4
      refine lv_iload_n (pc := 30) C.1 C.2.1 dX9_mayBegin_30 rfl (lv_at hl 2 rfl) ?_
      refine lv_aload_n (pc := 31) C.1 C.2.1 dX9_mayBegin_31 rfl (lv_at hl 0 rfl) ?_
      refine GM_X9_42_0 (pc := 32) C h dX9_mayBegin_32 ?_
      refine lv_iload_n (pc := 35) C.1 C.2.1 dX9_mayBegin_35 rfl (lv_at hl 1 rfl) ?_
      refine ldM_9 (pc := 36) C h hw.1 dX9_mayBegin_36 ?_
      have hw := hw.2
      refine lv_iadd (pc := 37) C.1 C.2.1 dX9_mayBegin_37 ?_
      refine lv_sipush (v := 168) (pc := 38) C.1 C.2.1 dX9_mayBegin_38 (by decide) ?_
      refine lv_icmp_le (tgt := 46) (pc := 41) C.1 C.2.1 dX9_mayBegin_41 (by decide) (fun c5 => ?_) (fun c5 => ?_)
      · have hw := hw.1 c5
        refine lv_iconst (v := 0) (pc := 46) C.1 C.2.1 dX9_mayBegin_46 (by decide) ?_
        have hw := hw (fun (v6 : Int32) (z8 : St) => ∀ (H : Heap) (locs : List Loc) (ls : Array Slot), wd D t A s (wM t a z8) H locs → lv_has ls 7 [(0, .ref (a 0)), (1, .int b1), (2, .int b2), (3, .int v6)] → W p l e (rmd 3) s m args below meth c H locs 0 0 (QI D t A (wM t a) P below args s) (F0 m 48 ls [])) (by
            intro v6 z8 hw H locs ls h hl
            refine lv_iload_n (pc := 48) C.1 C.2.1 dX9_mayBegin_48 rfl (lv_at hl 3 rfl) ?_
            refine lv_aload_n (pc := 49) C.1 C.2.1 dX9_mayBegin_49 rfl (lv_at hl 0 rfl) ?_
            refine GM_X9_42_0 (pc := 50) C h dX9_mayBegin_50 ?_
            refine lv_iload_n (pc := 53) C.1 C.2.1 dX9_mayBegin_53 rfl (lv_at hl 1 rfl) ?_
            refine ldM_9 (pc := 54) C h hw.1 dX9_mayBegin_54 ?_
            have hw := hw.2
            refine lv_icmp_ge (tgt := 188) (pc := 55) C.1 C.2.1 dX9_mayBegin_55 (by decide) (fun c9 => ?_) (fun c9 => ?_)
            · have hw := hw.1 c9
              refine lv_iconst (v := 1) (pc := 188) C.1 C.2.1 dX9_mayBegin_188 (by decide) ?_
              refine lv_istore_n (lv' := [(3, .int ((1 : Int32))), (0, .ref (a 0)), (1, .int b1), (2, .int b2)]) (pc := 189) C.1 C.2.1 dX9_mayBegin_189 rfl hl (by decide) rfl (fun ls hl => ?_)
              refine lv_iconst (v := 0) (pc := 190) C.1 C.2.1 dX9_mayBegin_190 (by decide) ?_
              have hw := hw (fun (v10 : Int32) (v11 : Int32) (z13 : St) => ∀ (H : Heap) (locs : List Loc) (ls : Array Slot), wd D t A s (wM t a z13) H locs → lv_has ls 7 [(0, .ref (a 0)), (1, .int b1), (2, .int b2), (3, .int v10), (4, .int v11)] → W p l e (rmd 3) s m args below meth c H locs 0 0 (QI D t A (wM t a) P below args s) (F0 m 193 ls [])) (by
                  intro v10 v11 z13 hw H locs ls h hl
                  refine lv_iload (pc := 193) C.1 C.2.1 dX9_mayBegin_193 (lv_at hl 4 rfl) ?_
                  refine lv_aload_n (pc := 195) C.1 C.2.1 dX9_mayBegin_195 rfl (lv_at hl 0 rfl) ?_
                  refine GM_X9_207_0 (pc := 196) C h dX9_mayBegin_196 ?_
                  refine lv_icmp_ge (tgt := 374) (pc := 199) C.1 C.2.1 dX9_mayBegin_199 (by decide) (fun c14 => ?_) (fun c14 => ?_)
                  · have hw := hw.1 c14
                    refine lv_iload_n (pc := 374) C.1 C.2.1 dX9_mayBegin_374 rfl (lv_at hl 3 rfl) ?_
                    exact rt_z (pc := 375) C hr hlk h hw.1 hw.2 dX9_mayBegin_375
                  · have hw := hw.2 c14
                    refine lv_aload_n (pc := 202) C.1 C.2.1 dX9_mayBegin_202 rfl (lv_at hl 0 rfl) ?_
                    refine GM_X9_57_0 (pc := 203) C h dX9_mayBegin_203 ?_
                    refine lv_iload (pc := 206) C.1 C.2.1 dX9_mayBegin_206 (lv_at hl 4 rfl) ?_
                    refine ldM_14 (pc := 208) C h hw.1 dX9_mayBegin_208 ?_
                    have hw := hw.2
                    refine lv_iconst (v := 2) (pc := 209) C.1 C.2.1 dX9_mayBegin_209 (by decide) ?_
                    have hw := hw (fun (v15 : Int32) (v16 : Int32) (z18 : St) => ∀ (H : Heap) (locs : List Loc) (ls : Array Slot), wd D t A s (wM t a z18) H locs → lv_has ls 7 [(0, .ref (a 0)), (1, .int b1), (2, .int b2), (3, .int v15), (4, .int v16)] → W p l e (rmd 3) s m args below meth c H locs 0 0 (QI D t A (wM t a) P below args s) (F0 m 368 ls [])) (by
                        intro v15 v16 z18 hw H locs ls h hl
                        obtain ⟨x19, ex19⟩ : ∃ y : Int32, y = v16 + (1) := ⟨_, rfl⟩
                        have hw := hw x19 ex19
                        refine lv_iinc (v := x19) (lv' := [(4, .int x19), (0, .ref (a 0)), (1, .int b1), (2, .int b2), (3, .int v15)]) (pc := 368) C.1 C.2.1 dX9_mayBegin_368 hl (k := 4) rfl (by rw [ex19]; rfl) (by decide) rfl (fun ls hl => ?_)
                        refine lv_goto (tgt := 193) (pc := 371) C.1 C.2.1 dX9_mayBegin_371 (by decide) ?_
                        exact hw _ _ _ h (lv_sub hl [1, 2, 3, 4, 0] rfl))
                    refine lv_icmp_eq (tgt := 216) (pc := 210) C.1 C.2.1 dX9_mayBegin_210 (by decide) (fun c20 => ?_) (fun c20 => ?_)
                    · have hw := hw.1 c20
                      refine lv_aload_n (pc := 216) C.1 C.2.1 dX9_mayBegin_216 rfl (lv_at hl 0 rfl) ?_
                      refine GM_X9_60_0 (pc := 217) C h dX9_mayBegin_217 ?_
                      refine lv_iload (pc := 220) C.1 C.2.1 dX9_mayBegin_220 (lv_at hl 4 rfl) ?_
                      refine ldM_15 (pc := 222) C h hw.1 dX9_mayBegin_222 ?_
                      have hw := hw.2
                      refine lv_iload_n (pc := 223) C.1 C.2.1 dX9_mayBegin_223 rfl (lv_at hl 1 rfl) ?_
                      have hw := hw (fun (v21 : Int32) (v22 : Int32) (z24 : St) => ∀ (H : Heap) (locs : List Loc) (ls : Array Slot), wd D t A s (wM t a z24) H locs → lv_has ls 7 [(0, .ref (a 0)), (1, .int b1), (2, .int b2), (3, .int v21), (4, .int v22)] → W p l e (rmd 3) s m args below meth c H locs 0 0 (QI D t A (wM t a) P below args s) (F0 m 289 ls [])) (by
                          intro v21 v22 z24 hw H locs ls h hl
                          refine lv_aload_n (pc := 289) C.1 C.2.1 dX9_mayBegin_289 rfl (lv_at hl 0 rfl) ?_
                          refine GM_X9_63_0 (pc := 290) C h dX9_mayBegin_290 ?_
                          refine lv_iload (pc := 293) C.1 C.2.1 dX9_mayBegin_293 (lv_at hl 4 rfl) ?_
                          refine ldM_16 (pc := 295) C h hw.1 dX9_mayBegin_295 ?_
                          have hw := hw.2
                          refine lv_iload_n (pc := 296) C.1 C.2.1 dX9_mayBegin_296 rfl (lv_at hl 1 rfl) ?_
                          refine lv_icmp_ne (tgt := 368) (pc := 297) C.1 C.2.1 dX9_mayBegin_297 (by decide) (fun c25 => ?_) (fun c25 => ?_)
                          · have hw := hw.1 c25
                            exact hw _ _ _ h (lv_sub hl [0, 1, 2, 3, 4] rfl)
                          · have hw := hw.2 c25
                            refine lv_aload_n (pc := 300) C.1 C.2.1 dX9_mayBegin_300 rfl (lv_at hl 0 rfl) ?_
                            refine lv_aload_n (pc := 301) C.1 C.2.1 dX9_mayBegin_301 rfl (lv_at hl 0 rfl) ?_
                            refine GM_X9_60_0 (pc := 302) C h dX9_mayBegin_302 ?_
                            refine lv_iload (pc := 305) C.1 C.2.1 dX9_mayBegin_305 (lv_at hl 4 rfl) ?_
                            refine ldM_15 (pc := 307) C h hw.1 dX9_mayBegin_307 ?_
                            have hw := hw.2
                            refine cl_vi (pc := 308) (As := [.int (gF z24 15 v22.toNatClampNeg)]) (rest := []) C h (m_X9_isJob l D t a (gF z24 15 v22.toNatClampNeg) z24 _ hw) mw_X9_isJob lm_X9_193 md_X9_isJob rcM_0 ⟨by decide, by decide⟩ ⟨Nat.zero_le _, Nat.zero_le _⟩ hl.1 rfl (Nat.le_of_ble_eq_true rfl) dX9_mayBegin_308 (fun r27 z26 H locs hw h => ?_)
                            refine lv_if_eq (tgt := 368) (pc := 311) C.1 C.2.1 dX9_mayBegin_311 (by decide) (fun c28 => ?_) (fun c28 => ?_)
                            · have hw := hw.1 c28
                              exact hw _ _ _ h (lv_sub hl [0, 1, 2, 3, 4] rfl)
                            · have hw := hw.2 c28
                              refine lv_aload_n (pc := 314) C.1 C.2.1 dX9_mayBegin_314 rfl (lv_at hl 0 rfl) ?_
                              refine GM_X9_48_0 (pc := 315) C h dX9_mayBegin_315 ?_
                              refine lv_aload_n (pc := 318) C.1 C.2.1 dX9_mayBegin_318 rfl (lv_at hl 0 rfl) ?_
                              refine GM_X9_60_0 (pc := 319) C h dX9_mayBegin_319 ?_
                              refine lv_iload (pc := 322) C.1 C.2.1 dX9_mayBegin_322 (lv_at hl 4 rfl) ?_
                              refine ldM_15 (pc := 324) C h hw.1 dX9_mayBegin_324 ?_
                              have hw := hw.2
                              refine ldM_11 (pc := 325) C h hw.1 dX9_mayBegin_325 ?_
                              have hw := hw.2
                              refine lv_if_eq (tgt := 368) (pc := 326) C.1 C.2.1 dX9_mayBegin_326 (by decide) (fun c29 => ?_) (fun c29 => ?_)
                              · have hw := hw.1 c29
                                exact hw _ _ _ h (lv_sub hl [0, 1, 2, 3, 4] rfl)
                              · have hw := hw.2 c29
                                refine lv_iload_n (pc := 329) C.1 C.2.1 dX9_mayBegin_329 rfl (lv_at hl 3 rfl) ?_
                                have hw := hw (fun (v30 : Int32) (s31 : Int32) (z33 : St) => ∀ (H : Heap) (locs : List Loc) (ls : Array Slot), wd D t A s (wM t a z33) H locs → lv_has ls 7 [(0, .ref (a 0)), (1, .int b1), (2, .int b2), (4, .int v30)] → W p l e (rmd 3) s m args below meth c H locs 0 0 (QI D t A (wM t a) P below args s) (F0 m 367 ls [.int s31])) (by
                                    intro v30 s31 z33 hw H locs ls h hl
                                    refine lv_istore_n (lv' := [(3, .int s31), (0, .ref (a 0)), (1, .int b1), (2, .int b2), (4, .int v30)]) (pc := 367) C.1 C.2.1 dX9_mayBegin_367 rfl hl (by decide) rfl (fun ls hl => ?_)
                                    exact hw _ _ _ h (lv_sub hl [1, 2, 3, 0, 4] rfl))
                                have hw := hw (fun (v34 : Int32) (z36 : St) => ∀ (H : Heap) (locs : List Loc) (ls : Array Slot), wd D t A s (wM t a z36) H locs → lv_has ls 7 [(0, .ref (a 0)), (1, .int b1), (2, .int b2), (4, .int v34)] → W p l e (rmd 3) s m args below meth c H locs 0 0 (QI D t A (wM t a) P below args s) (F0 m 366 ls [])) (by
                                    intro v34 z36 hw H locs ls h hl
                                    refine lv_iconst (v := 0) (pc := 366) C.1 C.2.1 dX9_mayBegin_366 (by decide) ?_
                                    exact hw _ _ _ h (lv_sub hl [0, 1, 2, 3] rfl))
                                refine lv_if_eq (tgt := 366) (pc := 330) C.1 C.2.1 dX9_mayBegin_330 (by decide) (fun c37 => ?_) (fun c37 => ?_)
                                · have hw := hw.1 c37
                                  exact hw _ _ _ h (lv_sub hl [0, 1, 2, 4] rfl)
                                · have hw := hw.2 c37
                                  refine lv_iload_n (pc := 333) C.1 C.2.1 dX9_mayBegin_333 rfl (lv_at hl 2 rfl) ?_
                                  refine lv_aload_n (pc := 334) C.1 C.2.1 dX9_mayBegin_334 rfl (lv_at hl 0 rfl) ?_
                                  refine GM_X9_51_0 (pc := 335) C h dX9_mayBegin_335 ?_
                                  refine lv_aload_n (pc := 338) C.1 C.2.1 dX9_mayBegin_338 rfl (lv_at hl 0 rfl) ?_
                                  refine GM_X9_60_0 (pc := 339) C h dX9_mayBegin_339 ?_
                                  refine lv_iload (pc := 342) C.1 C.2.1 dX9_mayBegin_342 (lv_at hl 4 rfl) ?_
                                  refine ldM_15 (pc := 344) C h hw.1 dX9_mayBegin_344 ?_
                                  have hw := hw.2
                                  refine ldM_12 (pc := 345) C h hw.1 dX9_mayBegin_345 ?_
                                  have hw := hw.2
                                  refine lv_aload_n (pc := 346) C.1 C.2.1 dX9_mayBegin_346 rfl (lv_at hl 0 rfl) ?_
                                  refine GM_X9_42_0 (pc := 347) C h dX9_mayBegin_347 ?_
                                  refine lv_aload_n (pc := 350) C.1 C.2.1 dX9_mayBegin_350 rfl (lv_at hl 0 rfl) ?_
                                  refine GM_X9_60_0 (pc := 351) C h dX9_mayBegin_351 ?_
                                  refine lv_iload (pc := 354) C.1 C.2.1 dX9_mayBegin_354 (lv_at hl 4 rfl) ?_
                                  refine ldM_15 (pc := 356) C h hw.1 dX9_mayBegin_356 ?_
                                  have hw := hw.2
                                  refine ldM_9 (pc := 357) C h hw.1 dX9_mayBegin_357 ?_
                                  have hw := hw.2
                                  refine lv_iadd (pc := 358) C.1 C.2.1 dX9_mayBegin_358 ?_
                                  refine lv_icmp_lt (tgt := 366) (pc := 359) C.1 C.2.1 dX9_mayBegin_359 (by decide) (fun c38 => ?_) (fun c38 => ?_)
                                  · have hw := hw.1 c38
                                    exact hw _ _ _ h (lv_sub hl [0, 1, 2, 4] rfl)
                                  · have hw := hw.2 c38
                                    refine lv_iconst (v := 1) (pc := 362) C.1 C.2.1 dX9_mayBegin_362 (by decide) ?_
                                    refine lv_goto (tgt := 367) (pc := 363) C.1 C.2.1 dX9_mayBegin_363 (by decide) ?_
                                    exact hw _ _ _ h (lv_sub hl [0, 1, 2, 4] rfl))
                      refine lv_icmp_ne (tgt := 289) (pc := 224) C.1 C.2.1 dX9_mayBegin_224 (by decide) (fun c39 => ?_) (fun c39 => ?_)
                      · have hw := hw.1 c39
                        exact hw _ _ _ h (lv_sub hl [0, 1, 2, 3, 4] rfl)
                      · have hw := hw.2 c39
                        refine lv_aload_n (pc := 227) C.1 C.2.1 dX9_mayBegin_227 rfl (lv_at hl 0 rfl) ?_
                        refine lv_aload_n (pc := 228) C.1 C.2.1 dX9_mayBegin_228 rfl (lv_at hl 0 rfl) ?_
                        refine GM_X9_63_0 (pc := 229) C h dX9_mayBegin_229 ?_
                        refine lv_iload (pc := 232) C.1 C.2.1 dX9_mayBegin_232 (lv_at hl 4 rfl) ?_
                        refine ldM_16 (pc := 234) C h hw.1 dX9_mayBegin_234 ?_
                        have hw := hw.2
                        refine cl_vi (pc := 235) (As := [.int (gF z13 16 v11.toNatClampNeg)]) (rest := []) C h (m_X9_isJob l D t a (gF z13 16 v11.toNatClampNeg) z13 _ hw) mw_X9_isJob lm_X9_193 md_X9_isJob rcM_0 ⟨by decide, by decide⟩ ⟨Nat.zero_le _, Nat.zero_le _⟩ hl.1 rfl (Nat.le_of_ble_eq_true rfl) dX9_mayBegin_235 (fun r41 z40 H locs hw h => ?_)
                        refine lv_if_eq (tgt := 289) (pc := 238) C.1 C.2.1 dX9_mayBegin_238 (by decide) (fun c42 => ?_) (fun c42 => ?_)
                        · have hw := hw.1 c42
                          exact hw _ _ _ h (lv_sub hl [0, 1, 2, 3, 4] rfl)
                        · have hw := hw.2 c42
                          refine lv_aload_n (pc := 241) C.1 C.2.1 dX9_mayBegin_241 rfl (lv_at hl 0 rfl) ?_
                          refine GM_X9_48_0 (pc := 242) C h dX9_mayBegin_242 ?_
                          refine lv_aload_n (pc := 245) C.1 C.2.1 dX9_mayBegin_245 rfl (lv_at hl 0 rfl) ?_
                          refine GM_X9_63_0 (pc := 246) C h dX9_mayBegin_246 ?_
                          refine lv_iload (pc := 249) C.1 C.2.1 dX9_mayBegin_249 (lv_at hl 4 rfl) ?_
                          refine ldM_16 (pc := 251) C h hw.1 dX9_mayBegin_251 ?_
                          have hw := hw.2
                          refine ldM_11 (pc := 252) C h hw.1 dX9_mayBegin_252 ?_
                          have hw := hw.2
                          refine lv_if_eq (tgt := 289) (pc := 253) C.1 C.2.1 dX9_mayBegin_253 (by decide) (fun c43 => ?_) (fun c43 => ?_)
                          · have hw := hw.1 c43
                            exact hw _ _ _ h (lv_sub hl [0, 1, 2, 3, 4] rfl)
                          · have hw := hw.2 c43
                            refine lv_iload_n (pc := 256) C.1 C.2.1 dX9_mayBegin_256 rfl (lv_at hl 3 rfl) ?_
                            have hw := hw (fun (v44 : Int32) (s45 : Int32) (z47 : St) => ∀ (H : Heap) (locs : List Loc) (ls : Array Slot), wd D t A s (wM t a z47) H locs → lv_has ls 7 [(0, .ref (a 0)), (1, .int b1), (2, .int b2), (4, .int v44)] → W p l e (rmd 3) s m args below meth c H locs 0 0 (QI D t A (wM t a) P below args s) (F0 m 288 ls [.int s45])) (by
                                intro v44 s45 z47 hw H locs ls h hl
                                refine lv_istore_n (lv' := [(3, .int s45), (0, .ref (a 0)), (1, .int b1), (2, .int b2), (4, .int v44)]) (pc := 288) C.1 C.2.1 dX9_mayBegin_288 rfl hl (by decide) rfl (fun ls hl => ?_)
                                exact hw _ _ _ h (lv_sub hl [1, 2, 3, 0, 4] rfl))
                            have hw := hw (fun (v48 : Int32) (z50 : St) => ∀ (H : Heap) (locs : List Loc) (ls : Array Slot), wd D t A s (wM t a z50) H locs → lv_has ls 7 [(0, .ref (a 0)), (1, .int b1), (2, .int b2), (4, .int v48)] → W p l e (rmd 3) s m args below meth c H locs 0 0 (QI D t A (wM t a) P below args s) (F0 m 287 ls [])) (by
                                intro v48 z50 hw H locs ls h hl
                                refine lv_iconst (v := 0) (pc := 287) C.1 C.2.1 dX9_mayBegin_287 (by decide) ?_
                                exact hw _ _ _ h (lv_sub hl [0, 1, 2, 3] rfl))
                            refine lv_if_eq (tgt := 287) (pc := 257) C.1 C.2.1 dX9_mayBegin_257 (by decide) (fun c51 => ?_) (fun c51 => ?_)
                            · have hw := hw.1 c51
                              exact hw _ _ _ h (lv_sub hl [0, 1, 2, 4] rfl)
                            · have hw := hw.2 c51
                              refine lv_aload_n (pc := 260) C.1 C.2.1 dX9_mayBegin_260 rfl (lv_at hl 0 rfl) ?_
                              refine GM_X9_51_0 (pc := 261) C h dX9_mayBegin_261 ?_
                              refine lv_aload_n (pc := 264) C.1 C.2.1 dX9_mayBegin_264 rfl (lv_at hl 0 rfl) ?_
                              refine GM_X9_63_0 (pc := 265) C h dX9_mayBegin_265 ?_
                              refine lv_iload (pc := 268) C.1 C.2.1 dX9_mayBegin_268 (lv_at hl 4 rfl) ?_
                              refine ldM_16 (pc := 270) C h hw.1 dX9_mayBegin_270 ?_
                              have hw := hw.2
                              refine ldM_12 (pc := 271) C h hw.1 dX9_mayBegin_271 ?_
                              have hw := hw.2
                              refine lv_iload_n (pc := 272) C.1 C.2.1 dX9_mayBegin_272 rfl (lv_at hl 2 rfl) ?_
                              refine lv_aload_n (pc := 273) C.1 C.2.1 dX9_mayBegin_273 rfl (lv_at hl 0 rfl) ?_
                              refine GM_X9_42_0 (pc := 274) C h dX9_mayBegin_274 ?_
                              refine lv_iload_n (pc := 277) C.1 C.2.1 dX9_mayBegin_277 rfl (lv_at hl 1 rfl) ?_
                              refine ldM_9 (pc := 278) C h hw.1 dX9_mayBegin_278 ?_
                              have hw := hw.2
                              refine lv_iadd (pc := 279) C.1 C.2.1 dX9_mayBegin_279 ?_
                              refine lv_icmp_lt (tgt := 287) (pc := 280) C.1 C.2.1 dX9_mayBegin_280 (by decide) (fun c52 => ?_) (fun c52 => ?_)
                              · have hw := hw.1 c52
                                exact hw _ _ _ h (lv_sub hl [0, 1, 2, 4] rfl)
                              · have hw := hw.2 c52
                                refine lv_iconst (v := 1) (pc := 283) C.1 C.2.1 dX9_mayBegin_283 (by decide) ?_
                                refine lv_goto (tgt := 288) (pc := 284) C.1 C.2.1 dX9_mayBegin_284 (by decide) ?_
                                exact hw _ _ _ h (lv_sub hl [0, 1, 2, 4] rfl)
                    · have hw := hw.2 c20
                      refine lv_goto (tgt := 368) (pc := 213) C.1 C.2.1 dX9_mayBegin_213 (by decide) ?_
                      exact hw _ _ _ h (lv_sub hl [0, 1, 2, 3, 4] rfl))
              refine lv_istore (lv' := [(4, .int ((0 : Int32))), (3, .int ((1 : Int32))), (0, .ref (a 0)), (1, .int b1), (2, .int b2)]) (pc := 191) C.1 C.2.1 dX9_mayBegin_191 hl (by decide) rfl (fun ls hl => ?_)
              exact hw _ _ _ h (lv_sub hl [2, 3, 4, 1, 0] rfl)
            · have hw := hw.2 c9
              refine lv_iload_n (pc := 58) C.1 C.2.1 dX9_mayBegin_58 rfl (lv_at hl 2 rfl) ?_
              refine lv_iload_n (pc := 59) C.1 C.2.1 dX9_mayBegin_59 rfl (lv_at hl 3 rfl) ?_
              refine lv_iadd (pc := 60) C.1 C.2.1 dX9_mayBegin_60 ?_
              refine lv_topi (fun x53 ex53 => ?_)
              have hw := hw x53 ex53
              refine lv_istore (lv' := [(4, .int x53), (0, .ref (a 0)), (1, .int b1), (2, .int b2), (3, .int v6)]) (pc := 61) C.1 C.2.1 dX9_mayBegin_61 hl (by decide) rfl (fun ls hl => ?_)
              refine lv_aload_n (pc := 63) C.1 C.2.1 dX9_mayBegin_63 rfl (lv_at hl 1 rfl) ?_
              refine lv_aload_n (pc := 64) C.1 C.2.1 dX9_mayBegin_64 rfl (lv_at hl 1 rfl) ?_
              refine GM_X9_33_0 (pc := 65) C h dX9_mayBegin_65 ?_
              refine lv_iload_n (pc := 68) C.1 C.2.1 dX9_mayBegin_68 rfl (lv_at hl 2 rfl) ?_
              refine ldM_6 (pc := 69) C h hw.1 dX9_mayBegin_69 ?_
              have hw := hw.2
              refine lv_iload (pc := 70) C.1 C.2.1 dX9_mayBegin_70 (lv_at hl 0 rfl) ?_
              refine cl_vi (pc := 72) (As := [.int (gF z8 6 b1.toNatClampNeg), .int x53]) (rest := []) C h (m_X9_isQuiet l D t a (gF z8 6 b1.toNatClampNeg) x53 z8 _ hw) mw_X9_isQuiet lm_X9_213 md_X9_isQuiet rcM_0 ⟨by decide, by decide⟩ ⟨Nat.zero_le _, Nat.zero_le _⟩ hl.1 rfl (Nat.le_of_ble_eq_true rfl) dX9_mayBegin_72 (fun r55 z54 H locs hw h => ?_)
              refine lv_if_ne (tgt := 125) (pc := 75) C.1 C.2.1 dX9_mayBegin_75 (by decide) (fun c56 => ?_) (fun c56 => ?_)
              · have hw := hw.1 c56
                refine lv_iconst (v := 0) (pc := 125) C.1 C.2.1 dX9_mayBegin_125 (by decide) ?_
                exact rt_z (pc := 126) C hr hlk h (Or.inl rfl) hw dX9_mayBegin_126
              · have hw := hw.2 c56
                refine lv_aload_n (pc := 78) C.1 C.2.1 dX9_mayBegin_78 rfl (lv_at hl 1 rfl) ?_
                refine lv_iload (pc := 79) C.1 C.2.1 dX9_mayBegin_79 (lv_at hl 0 rfl) ?_
                refine cl_vi (pc := 81) (As := [.int x53]) (rest := []) C h (m_X9_isDear l D t a x53 z54 _ hw) mw_X9_isDear lm_X9_217 md_X9_isDear rcM_0 ⟨by decide, by decide⟩ ⟨Nat.zero_le _, Nat.zero_le _⟩ hl.1 rfl (Nat.le_of_ble_eq_true rfl) dX9_mayBegin_81 (fun r58 z57 H locs hw h => ?_)
                refine lv_if_ne (tgt := 125) (pc := 84) C.1 C.2.1 dX9_mayBegin_84 (by decide) (fun c59 => ?_) (fun c59 => ?_)
                · have hw := hw.1 c59
                  refine lv_iconst (v := 0) (pc := 125) C.1 C.2.1 dX9_mayBegin_125 (by decide) ?_
                  exact rt_z (pc := 126) C hr hlk h (Or.inl rfl) hw dX9_mayBegin_126
                · have hw := hw.2 c59
                  refine lv_aload_n (pc := 87) C.1 C.2.1 dX9_mayBegin_87 rfl (lv_at hl 1 rfl) ?_
                  refine lv_aload_n (pc := 88) C.1 C.2.1 dX9_mayBegin_88 rfl (lv_at hl 1 rfl) ?_
                  refine GM_X9_33_0 (pc := 89) C h dX9_mayBegin_89 ?_
                  refine lv_iload_n (pc := 92) C.1 C.2.1 dX9_mayBegin_92 rfl (lv_at hl 2 rfl) ?_
                  refine ldM_6 (pc := 93) C h hw.1 dX9_mayBegin_93 ?_
                  have hw := hw.2
                  refine lv_iload (pc := 94) C.1 C.2.1 dX9_mayBegin_94 (lv_at hl 0 rfl) ?_
                  refine lv_iload_n (pc := 96) C.1 C.2.1 dX9_mayBegin_96 rfl (lv_at hl 2 rfl) ?_
                  refine cl_vi (pc := 97) (As := [.int (gF z57 6 b1.toNatClampNeg), .int x53, .int b1]) (rest := []) C h (m_X9_loadOf l D t a (gF z57 6 b1.toNatClampNeg) x53 b1 z57 _ hw) mw_X9_loadOf lm_X9_203 md_X9_loadOf rcM_0 ⟨by decide, by decide⟩ ⟨Nat.zero_le _, Nat.zero_le _⟩ hl.1 rfl (Nat.le_of_ble_eq_true rfl) dX9_mayBegin_97 (fun r61 z60 H locs hw h => ?_)
                  refine lv_aload_n (pc := 100) C.1 C.2.1 dX9_mayBegin_100 rfl (lv_at hl 1 rfl) ?_
                  refine GM_X9_45_0 (pc := 101) C h dX9_mayBegin_101 ?_
                  refine lv_iconst (v := 4) (pc := 104) C.1 C.2.1 dX9_mayBegin_104 (by decide) ?_
                  refine lv_iload_n (pc := 105) C.1 C.2.1 dX9_mayBegin_105 rfl (lv_at hl 2 rfl) ?_
                  refine lv_imul (pc := 106) C.1 C.2.1 dX9_mayBegin_106 ?_
                  refine lv_iload_n (pc := 107) C.1 C.2.1 dX9_mayBegin_107 rfl (lv_at hl 4 rfl) ?_
                  refine lv_iadd (pc := 108) C.1 C.2.1 dX9_mayBegin_108 ?_
                  refine ldM_10 (pc := 109) C h hw.1 dX9_mayBegin_109 ?_
                  have hw := hw.2
                  refine lv_iadd (pc := 110) C.1 C.2.1 dX9_mayBegin_110 ?_
                  refine lv_aload_n (pc := 111) C.1 C.2.1 dX9_mayBegin_111 rfl (lv_at hl 1 rfl) ?_
                  refine GM_X9_23_0 (pc := 112) C h dX9_mayBegin_112 ?_
                  refine lv_aload_n (pc := 115) C.1 C.2.1 dX9_mayBegin_115 rfl (lv_at hl 1 rfl) ?_
                  refine GM_X9_33_0 (pc := 116) C h dX9_mayBegin_116 ?_
                  refine lv_iload_n (pc := 119) C.1 C.2.1 dX9_mayBegin_119 rfl (lv_at hl 2 rfl) ?_
                  refine ldM_6 (pc := 120) C h hw.1 dX9_mayBegin_120 ?_
                  have hw := hw.2
                  refine ldM_4 (pc := 121) C h hw.1 dX9_mayBegin_121 ?_
                  have hw := hw.2
                  refine lv_icmp_le (tgt := 127) (pc := 122) C.1 C.2.1 dX9_mayBegin_122 (by decide) (fun c62 => ?_) (fun c62 => ?_)
                  · have hw := hw.1 c62
                    refine lv_aload_n (pc := 127) C.1 C.2.1 dX9_mayBegin_127 rfl (lv_at hl 1 rfl) ?_
                    refine GM_X9_45_0 (pc := 128) C h dX9_mayBegin_128 ?_
                    refine lv_iconst (v := 4) (pc := 131) C.1 C.2.1 dX9_mayBegin_131 (by decide) ?_
                    refine lv_iload_n (pc := 132) C.1 C.2.1 dX9_mayBegin_132 rfl (lv_at hl 2 rfl) ?_
                    refine lv_imul (pc := 133) C.1 C.2.1 dX9_mayBegin_133 ?_
                    refine lv_iload_n (pc := 134) C.1 C.2.1 dX9_mayBegin_134 rfl (lv_at hl 4 rfl) ?_
                    refine lv_iadd (pc := 135) C.1 C.2.1 dX9_mayBegin_135 ?_
                    refine ldM_10 (pc := 136) C h hw.1 dX9_mayBegin_136 ?_
                    have hw := hw.2
                    refine lv_topi (fun x63 ex63 => ?_)
                    have hw := hw x63 ex63
                    refine lv_istore (lv' := [(5, .int x63), (4, .int x53), (0, .ref (a 0)), (1, .int b1), (2, .int b2), (3, .int v6)]) (pc := 137) C.1 C.2.1 dX9_mayBegin_137 hl (by decide) rfl (fun ls hl => ?_)
                    refine lv_iconst (v := 0) (pc := 139) C.1 C.2.1 dX9_mayBegin_139 (by decide) ?_
                    have hw := hw (fun (v64 : Int32) (v65 : Int32) (v66 : Int32) (v67 : Int32) (z69 : St) => ∀ (H : Heap) (locs : List Loc) (ls : Array Slot), wd D t A s (wM t a z69) H locs → lv_has ls 7 [(0, .ref (a 0)), (1, .int b1), (2, .int b2), (3, .int v64), (4, .int v65), (5, .int v66), (6, .int v67)] → W p l e (rmd 3) s m args below meth c H locs 0 0 (QI D t A (wM t a) P below args s) (F0 m 142 ls [])) (by
                        intro v64 v65 v66 v67 z69 hw H locs ls h hl
                        refine lv_iload (pc := 142) C.1 C.2.1 dX9_mayBegin_142 (lv_at hl 6 rfl) ?_
                        refine lv_aload_n (pc := 144) C.1 C.2.1 dX9_mayBegin_144 rfl (lv_at hl 0 rfl) ?_
                        refine GM_X9_145_0 (pc := 145) C h dX9_mayBegin_145 ?_
                        refine lv_icmp_ge (tgt := 171) (pc := 148) C.1 C.2.1 dX9_mayBegin_148 (by decide) (fun c70 => ?_) (fun c70 => ?_)
                        · have hw := hw.1 c70
                          refine lv_iload (pc := 171) C.1 C.2.1 dX9_mayBegin_171 (lv_at hl 5 rfl) ?_
                          refine lv_aload_n (pc := 173) C.1 C.2.1 dX9_mayBegin_173 rfl (lv_at hl 0 rfl) ?_
                          refine GM_X9_30_0 (pc := 174) C h dX9_mayBegin_174 ?_
                          refine lv_icmp_le (tgt := 182) (pc := 177) C.1 C.2.1 dX9_mayBegin_177 (by decide) (fun c71 => ?_) (fun c71 => ?_)
                          · have hw := hw.1 c71
                            obtain ⟨x72, ex72⟩ : ∃ y : Int32, y = v64 + (1) := ⟨_, rfl⟩
                            have hw := hw x72 ex72
                            refine lv_iinc (v := x72) (lv' := [(3, .int x72), (0, .ref (a 0)), (1, .int b1), (2, .int b2), (4, .int v65), (5, .int v66), (6, .int v67)]) (pc := 182) C.1 C.2.1 dX9_mayBegin_182 hl (k := 3) rfl (by rw [ex72]; rfl) (by decide) rfl (fun ls hl => ?_)
                            refine lv_goto (tgt := 48) (pc := 185) C.1 C.2.1 dX9_mayBegin_185 (by decide) ?_
                            exact hw _ _ _ h (lv_sub hl [1, 2, 3, 0] rfl)
                          · have hw := hw.2 c71
                            refine lv_iconst (v := 0) (pc := 180) C.1 C.2.1 dX9_mayBegin_180 (by decide) ?_
                            exact rt_z (pc := 181) C hr hlk h (Or.inl rfl) hw dX9_mayBegin_181
                        · have hw := hw.2 c70
                          refine lv_iload (pc := 151) C.1 C.2.1 dX9_mayBegin_151 (lv_at hl 5 rfl) ?_
                          refine lv_aload_n (pc := 153) C.1 C.2.1 dX9_mayBegin_153 rfl (lv_at hl 0 rfl) ?_
                          refine lv_iload (pc := 154) C.1 C.2.1 dX9_mayBegin_154 (lv_at hl 6 rfl) ?_
                          refine lv_iload (pc := 156) C.1 C.2.1 dX9_mayBegin_156 (lv_at hl 4 rfl) ?_
                          refine lv_iload_n (pc := 158) C.1 C.2.1 dX9_mayBegin_158 rfl (lv_at hl 1 rfl) ?_
                          refine cl_vi (pc := 159) (As := [.int v67, .int v65, .int b1]) (rest := [.int v66]) C h (m_X9_loadOf l D t a v67 v65 b1 z69 _ hw) mw_X9_loadOf lm_X9_203 md_X9_loadOf rcM_0 ⟨by decide, by decide⟩ ⟨Nat.zero_le _, Nat.zero_le _⟩ hl.1 rfl (Nat.le_of_ble_eq_true rfl) dX9_mayBegin_159 (fun r74 z73 H locs hw h => ?_)
                          refine lv_iadd (pc := 162) C.1 C.2.1 dX9_mayBegin_162 ?_
                          refine lv_topi (fun x75 ex75 => ?_)
                          have hw := hw x75 ex75
                          refine lv_istore (lv' := [(5, .int x75), (0, .ref (a 0)), (1, .int b1), (2, .int b2), (3, .int v64), (4, .int v65), (6, .int v67)]) (pc := 163) C.1 C.2.1 dX9_mayBegin_163 hl (by decide) rfl (fun ls hl => ?_)
                          obtain ⟨x76, ex76⟩ : ∃ y : Int32, y = v67 + (1) := ⟨_, rfl⟩
                          have hw := hw x76 ex76
                          refine lv_iinc (v := x76) (lv' := [(6, .int x76), (5, .int x75), (0, .ref (a 0)), (1, .int b1), (2, .int b2), (3, .int v64), (4, .int v65)]) (pc := 165) C.1 C.2.1 dX9_mayBegin_165 hl (k := 6) rfl (by rw [ex76]; rfl) (by decide) rfl (fun ls hl => ?_)
                          refine lv_goto (tgt := 142) (pc := 168) C.1 C.2.1 dX9_mayBegin_168 (by decide) ?_
                          exact hw _ _ _ h (lv_sub hl [2, 3, 4, 5, 6, 1, 0] rfl))
                    refine lv_istore (lv' := [(6, .int ((0 : Int32))), (5, .int x63), (4, .int x53), (0, .ref (a 0)), (1, .int b1), (2, .int b2), (3, .int v6)]) (pc := 140) C.1 C.2.1 dX9_mayBegin_140 hl (by decide) rfl (fun ls hl => ?_)
                    exact hw _ _ _ h (lv_sub hl [3, 4, 5, 6, 2, 1, 0] rfl)
                  · have hw := hw.2 c62
                    refine lv_iconst (v := 0) (pc := 125) C.1 C.2.1 dX9_mayBegin_125 (by decide) ?_
                    exact rt_z (pc := 126) C hr hlk h (Or.inl rfl) hw dX9_mayBegin_126)
        refine lv_istore_n (lv' := [(3, .int ((0 : Int32))), (0, .ref (a 0)), (1, .int b1), (2, .int b2)]) (pc := 47) C.1 C.2.1 dX9_mayBegin_47 rfl hl (by decide) rfl (fun ls hl => ?_)
        exact hw _ _ _ h (lv_sub hl [1, 2, 3, 0] rfl)
      · have hw := hw.2 c5
        refine lv_iconst (v := 0) (pc := 44) C.1 C.2.1 dX9_mayBegin_44 (by decide) ?_
        exact rt_z (pc := 45) C hr hlk h (Or.inl rfl) hw dX9_mayBegin_45

def wp_X9_may (b1 : Int32) (b2 : Int32) (z : St) (P : Int32 → St → Prop) : Prop :=
  (∀ z1 : St, z1 = wI z 0 ((0 : Int32)) → (wp_X9_isJob b1 z1 (fun r3 z2 => (((r3 = 0) → P ((-1 : Int32)) z2) ∧ (¬ (r3 = 0) → (vp_in b1 16 ∧ ((((gF z2 11 b1.toNatClampNeg) = ((2 : Int32))) → P ((-1 : Int32)) z2) ∧ (¬ ((gF z2 11 b1.toNatClampNeg) = ((2 : Int32))) → (wp_X9_isHour b2 z2 (fun r7 z6 => (((¬ r7 = 0) → (wp_X9_mayBegin b1 b2 z6 (fun r10 z9 => (((r10 = 0) → P ((0 : Int32)) z9) ∧ (¬ (r10 = 0) → P ((1 : Int32)) z9))))) ∧ (r7 = 0 → P ((-1 : Int32)) z6))))))))))))
set_option maxHeartbeats 4000000 in
set_option maxRecDepth 100000 in
theorem m_X9_may (l : Launch) (D : va_G) (t : Ty3) (a : Nat → Nat) (b1 : Int32) (b2 : Int32) (z : St) (P : Int32 → St → Prop) (hw : wp_X9_may b1 b2 z P) : CtI l D t yX9_may cX9_may 3 (some .int) 4 (wM t a) (wM t a z) [.ref (a 0), .int b1, .int b2] P := by
  refine ctI_of (by decide) (Nat.le_of_ble_eq_true rfl) ?_
  intro p e s m args below meth c A ls C hr hlk h hl
  have hl : lv_has ls 3 [(0, .ref (a 0)), (1, .int b1), (2, .int b2)] := hl
  unfold wp_X9_may at hw
  refine lv_aload_n (pc := 0) C.1 C.2.1 dX9_may_0 rfl (lv_at hl 0 rfl) ?_
  refine lv_iconst (v := 0) (pc := 1) C.1 C.2.1 dX9_may_1 (by decide) ?_
  refine PM_X9_131_0 (pc := 2) C h dX9_may_2 (fun z1 ez1 H locs h => ?_)
  have hw := hw z1 ez1
  refine lv_aload_n (pc := 5) C.1 C.2.1 dX9_may_5 rfl (lv_at hl 0 rfl) ?_
  refine lv_iload_n (pc := 6) C.1 C.2.1 dX9_may_6 rfl (lv_at hl 1 rfl) ?_
  refine cl_vi (pc := 7) (As := [.int b1]) (rest := []) C h (m_X9_isJob l D t a b1 z1 _ hw) mw_X9_isJob lm_X9_193 md_X9_isJob rcM_0 ⟨by decide, by decide⟩ ⟨Nat.zero_le _, Nat.zero_le _⟩ hl.1 rfl (Nat.le_of_ble_eq_true rfl) dX9_may_7 (fun r3 z2 H locs hw h => ?_)
  refine lv_if_eq (tgt := 30) (pc := 10) C.1 C.2.1 dX9_may_10 (by decide) (fun c4 => ?_) (fun c4 => ?_)
  · have hw := hw.1 c4
    refine lv_iconst (v := -1) (pc := 30) C.1 C.2.1 dX9_may_30 (by decide) ?_
    exact rt_i (pc := 31) C hr hlk h hw dX9_may_31
  · have hw := hw.2 c4
    refine lv_aload_n (pc := 13) C.1 C.2.1 dX9_may_13 rfl (lv_at hl 0 rfl) ?_
    refine GM_X9_48_0 (pc := 14) C h dX9_may_14 ?_
    refine lv_iload_n (pc := 17) C.1 C.2.1 dX9_may_17 rfl (lv_at hl 1 rfl) ?_
    refine ldM_11 (pc := 18) C h hw.1 dX9_may_18 ?_
    have hw := hw.2
    refine lv_iconst (v := 2) (pc := 19) C.1 C.2.1 dX9_may_19 (by decide) ?_
    refine lv_icmp_eq (tgt := 30) (pc := 20) C.1 C.2.1 dX9_may_20 (by decide) (fun c5 => ?_) (fun c5 => ?_)
    · have hw := hw.1 c5
      refine lv_iconst (v := -1) (pc := 30) C.1 C.2.1 dX9_may_30 (by decide) ?_
      exact rt_i (pc := 31) C hr hlk h hw dX9_may_31
    · have hw := hw.2 c5
      refine lv_iload_n (pc := 23) C.1 C.2.1 dX9_may_23 rfl (lv_at hl 2 rfl) ?_
      refine cl_si (pc := 24) (As := [.int b2]) (rest := []) C h (m_X9_isHour l D t a b2 z2 _ hw) mw_X9_isHour lm_X9_151 md_X9_isHour ⟨by decide, by decide⟩ ⟨Nat.zero_le _, Nat.zero_le _⟩ hl.1 rfl (Nat.le_of_ble_eq_true rfl) dX9_may_24 (fun r7 z6 H locs hw h => ?_)
      refine lv_if_ne (tgt := 32) (pc := 27) C.1 C.2.1 dX9_may_27 (by decide) (fun c8 => ?_) (fun c8 => ?_)
      · have hw := hw.1 c8
        refine lv_aload_n (pc := 32) C.1 C.2.1 dX9_may_32 rfl (lv_at hl 0 rfl) ?_
        refine lv_iload_n (pc := 33) C.1 C.2.1 dX9_may_33 rfl (lv_at hl 1 rfl) ?_
        refine lv_iload_n (pc := 34) C.1 C.2.1 dX9_may_34 rfl (lv_at hl 2 rfl) ?_
        refine cl_vi (pc := 35) (As := [.int b1, .int b2]) (rest := []) C h (m_X9_mayBegin l D t a b1 b2 z6 _ hw) mw_X9_mayBegin lm_X9_220 md_X9_mayBegin rcM_0 ⟨by decide, by decide⟩ ⟨Nat.zero_le _, Nat.zero_le _⟩ hl.1 rfl (Nat.le_of_ble_eq_true rfl) dX9_may_35 (fun r10 z9 H locs hw h => ?_)
        refine lv_if_eq (tgt := 45) (pc := 38) C.1 C.2.1 dX9_may_38 (by decide) (fun c11 => ?_) (fun c11 => ?_)
        · have hw := hw.1 c11
          refine lv_iconst (v := 0) (pc := 45) C.1 C.2.1 dX9_may_45 (by decide) ?_
          exact rt_i (pc := 46) C hr hlk h hw dX9_may_46
        · have hw := hw.2 c11
          refine lv_iconst (v := 1) (pc := 41) C.1 C.2.1 dX9_may_41 (by decide) ?_
          refine lv_goto (tgt := 46) (pc := 42) C.1 C.2.1 dX9_may_42 (by decide) ?_
          exact rt_i (pc := 46) C hr hlk h hw dX9_may_46
      · have hw := hw.2 c8
        refine lv_iconst (v := -1) (pc := 30) C.1 C.2.1 dX9_may_30 (by decide) ?_
        exact rt_i (pc := 31) C hr hlk h hw dX9_may_31
