def wp_X6_matchPair_34 (b1 : Int32) (b2 : Int32) (z : St) (P : St → Prop) : Prop :=
  (vp_in b1 5 ∧ (vp_in b2 5 ∧ (wp_X5_isBefore_c34 (gF z 23 b1.toNatClampNeg) (gF z 23 b2.toNatClampNeg) z (fun r2 => (vp_in b2 5 ∧ (vp_in b1 5 ∧ (wp_X5_isBefore_c34 (gF z 23 b2.toNatClampNeg) (gF z 23 b1.toNatClampNeg) z (fun r4 => (∀ K6 : Int32 → St → Prop, (∀ (v5 : Int32) (z7 : St), (vp_in b1 5 ∧ ((((gF z7 25 b1.toNatClampNeg) ≤ v5) → P z7) ∧ (¬ ((gF z7 25 b1.toNatClampNeg) ≤ v5) → (vp_in ((b1 * ((24 : Int32))) + v5) 120 ∧ (∀ x9 : Int32, x9 = gF z7 26 ((b1 * ((24 : Int32))) + v5).toNatClampNeg → (vp_in b1 5 ∧ (vp_in (gF z7 23 b1.toNatClampNeg) 16 ∧ (∀ x10 : Int32, x10 = (gF z7 15 (gF z7 23 b1.toNatClampNeg).toNatClampNeg) + x9 → (vp_in b1 5 ∧ (vp_in (gF z7 23 b1.toNatClampNeg) 16 ∧ (∀ x11 : Int32, x11 = x10 + (gF z7 17 (gF z7 23 b1.toNatClampNeg).toNatClampNeg) → (∀ K13 : Int32 → St → Prop, (∀ (v12 : Int32) (z14 : St), (vp_in b2 5 ∧ ((((gF z14 25 b2.toNatClampNeg) ≤ v12) → (∀ x16 : Int32, x16 = v5 + (1) → K6 x16 z14)) ∧ (¬ ((gF z14 25 b2.toNatClampNeg) ≤ v12) → (vp_in ((b2 * ((24 : Int32))) + v12) 120 ∧ (∀ x17 : Int32, x17 = gF z14 26 ((b2 * ((24 : Int32))) + v12).toNatClampNeg → (vp_in b2 5 ∧ (vp_in (gF z14 23 b2.toNatClampNeg) 16 ∧ (∀ x18 : Int32, x18 = (gF z14 15 (gF z14 23 b2.toNatClampNeg).toNatClampNeg) + x17 → (vp_in b2 5 ∧ (vp_in (gF z14 23 b2.toNatClampNeg) 16 ∧ (∀ x19 : Int32, x19 = x18 + (gF z14 17 (gF z14 23 b2.toNatClampNeg).toNatClampNeg) → (∀ K20 : St → Prop, (∀ (z21 : St), (∀ x22 : Int32, x22 = v12 + (1) → K13 x22 z21) → K20 z21) → (∀ K23 : Prop, ((∀ K24 : Prop, ((∀ K25 : Prop, ((vp_in ((((b1 * ((24 : Int32))) + x9) * ((5 : Int32))) + b2) 600 ∧ (vp_in ((((b1 * ((24 : Int32))) + x9) * ((5 : Int32))) + b2) 600 ∧ (∀ z26 : St, z26 = wR z14 29 (upd (gF z14 29) ((((b1 * ((24 : Int32))) + x9) * ((5 : Int32))) + b2).toNatClampNeg ((gF z14 29 ((((b1 * ((24 : Int32))) + x9) * ((5 : Int32))) + b2).toNatClampNeg) ||| (((1 : Int32)) <<< (x17 &&& 31)))) → (vp_in ((((b2 * ((24 : Int32))) + x17) * ((5 : Int32))) + b1) 600 ∧ (vp_in ((((b2 * ((24 : Int32))) + x17) * ((5 : Int32))) + b1) 600 ∧ (∀ z27 : St, z27 = wR z26 29 (upd (gF z26 29) ((((b2 * ((24 : Int32))) + x17) * ((5 : Int32))) + b1).toNatClampNeg ((gF z26 29 ((((b2 * ((24 : Int32))) + x17) * ((5 : Int32))) + b1).toNatClampNeg) ||| (((1 : Int32)) <<< (x9 &&& 31)))) → K20 z27)))))) → K25) → (((x11 ≤ x18) → K25) ∧ (¬ (x11 ≤ x18) → (((x19 ≤ x10) → K25) ∧ (¬ (x19 ≤ x10) → (vp_in b1 5 ∧ (vp_in b2 5 ∧ (wp_X6_areBorne (gF z14 23 b1.toNatClampNeg) x10 (gF z14 23 b2.toNatClampNeg) x18 z14 (fun r31 => (((r31 = 0) → K20 z14) ∧ (¬ (r31 = 0) → K25))))))))))) → K24) → (((r4 = 0) → K24) ∧ (¬ (r4 = 0) → (((x19 ≤ x10) → K24) ∧ (¬ (x19 ≤ x10) → K20 z14))))) → K23) → (((r2 = 0) → K23) ∧ (¬ (r2 = 0) → (((x18 < x11) → K20 z14) ∧ (¬ (x18 < x11) → K23))))))))))))))))) → K13 v12 z14) → K13 ((0 : Int32)) z7)))))))))))) → K6 v5 z7) → K6 ((0 : Int32)) z)))))))))
set_option maxHeartbeats 4000000 in
set_option maxRecDepth 100000 in
theorem m_X6_matchPair_34 (l : Launch) (D : va_G) (t : Ty3) (a : Nat → Nat) (b1 : Int32) (b2 : Int32) (z : St) (P : St → Prop) (hw : wp_X6_matchPair_34 b1 b2 z P) : CtV l D t yX6_matchPair cX6_matchPair 14 none 2 (wX t a) (wX t a z) [.ref (a 22), .int b1, .int b2, .ref (a 34)] P := by
  refine ctV_of (by decide) (Nat.le_of_ble_eq_true rfl) ?_
  intro p e s m args below meth c A ls C hr hlk h hl
  have hl : lv_has ls 14 [(0, .ref (a 22)), (1, .int b1), (2, .int b2), (3, .ref (a 34))] := hl
  unfold wp_X6_matchPair_34 at hw
  refine lv_aload_n (pc := 0) C.1 C.2.1 dX6_matchPair_0 rfl (lv_at hl 3 rfl) ?_
  refine lv_aload_n (pc := 1) C.1 C.2.1 dX6_matchPair_1 rfl (lv_at hl 0 rfl) ?_
  refine GX_X6_9_22 (pc := 2) C h dX6_matchPair_2 ?_
  refine lv_iload_n (pc := 5) C.1 C.2.1 dX6_matchPair_5 rfl (lv_at hl 1 rfl) ?_
  refine ldX_23 (pc := 6) C h hw.1 dX6_matchPair_6 ?_
  have hw := hw.2
  refine lv_aload_n (pc := 7) C.1 C.2.1 dX6_matchPair_7 rfl (lv_at hl 0 rfl) ?_
  refine GX_X6_9_22 (pc := 8) C h dX6_matchPair_8 ?_
  refine lv_iload_n (pc := 11) C.1 C.2.1 dX6_matchPair_11 rfl (lv_at hl 2 rfl) ?_
  refine ldX_23 (pc := 12) C h hw.1 dX6_matchPair_12 ?_
  have hw := hw.2
  refine cl_vi (pc := 13) (As := [.int (gF z 23 b1.toNatClampNeg), .int (gF z 23 b2.toNatClampNeg)]) (rest := []) C h (m_X5_isBefore_c34 l D t a (gF z 23 b1.toNatClampNeg) (gF z 23 b2.toNatClampNeg) z _ hw) mw_X5_isBefore lm_X6_93 md_X5_isBefore rcX_34 ⟨by decide, by decide⟩ ⟨Nat.zero_le _, Nat.zero_le _⟩ hl.1 rfl (Nat.le_of_ble_eq_true rfl) dX6_matchPair_13 (fun r2 z1 H locs hw h => ?_)
  rw [hw.1] at h
  have hw := hw.2
  refine lv_istore (lv' := [(4, .int r2), (0, .ref (a 22)), (1, .int b1), (2, .int b2), (3, .ref (a 34))]) (pc := 16) C.1 C.2.1 dX6_matchPair_16 hl (by decide) rfl (fun ls hl => ?_)
  refine lv_aload_n (pc := 18) C.1 C.2.1 dX6_matchPair_18 rfl (lv_at hl 4 rfl) ?_
  refine lv_aload_n (pc := 19) C.1 C.2.1 dX6_matchPair_19 rfl (lv_at hl 1 rfl) ?_
  refine GX_X6_9_22 (pc := 20) C h dX6_matchPair_20 ?_
  refine lv_iload_n (pc := 23) C.1 C.2.1 dX6_matchPair_23 rfl (lv_at hl 3 rfl) ?_
  refine ldX_23 (pc := 24) C h hw.1 dX6_matchPair_24 ?_
  have hw := hw.2
  refine lv_aload_n (pc := 25) C.1 C.2.1 dX6_matchPair_25 rfl (lv_at hl 1 rfl) ?_
  refine GX_X6_9_22 (pc := 26) C h dX6_matchPair_26 ?_
  refine lv_iload_n (pc := 29) C.1 C.2.1 dX6_matchPair_29 rfl (lv_at hl 2 rfl) ?_
  refine ldX_23 (pc := 30) C h hw.1 dX6_matchPair_30 ?_
  have hw := hw.2
  refine cl_vi (pc := 31) (As := [.int (gF z 23 b2.toNatClampNeg), .int (gF z 23 b1.toNatClampNeg)]) (rest := []) C h (m_X5_isBefore_c34 l D t a (gF z 23 b2.toNatClampNeg) (gF z 23 b1.toNatClampNeg) z _ hw) mw_X5_isBefore lm_X6_93 md_X5_isBefore rcX_34 ⟨by decide, by decide⟩ ⟨Nat.zero_le _, Nat.zero_le _⟩ hl.1 rfl (Nat.le_of_ble_eq_true rfl) dX6_matchPair_31 (fun r4 z3 H locs hw h => ?_)
  rw [hw.1] at h
  have hw := hw.2
  refine lv_istore (lv' := [(5, .int r4), (4, .int r2), (0, .ref (a 22)), (1, .int b1), (2, .int b2), (3, .ref (a 34))]) (pc := 34) C.1 C.2.1 dX6_matchPair_34 hl (by decide) rfl (fun ls hl => ?_)
  refine lv_iconst (v := 0) (pc := 36) C.1 C.2.1 dX6_matchPair_36 (by decide) ?_
  have hw := hw (fun (v5 : Int32) (z7 : St) => ∀ (H : Heap) (locs : List Loc) (ls : Array Slot), wd D t A s (wX t a z7) H locs → lv_has ls 14 [(0, .ref (a 22)), (1, .int b1), (2, .int b2), (4, .int r2), (5, .int r4), (6, .int v5)] → W p l e (rmd 2) s m args below meth c H locs 0 0 (QV D t A (wX t a) P below args s) (F0 m 39 ls [])) (by
      intro v5 z7 hw H locs ls h hl
      refine lv_iload (pc := 39) C.1 C.2.1 dX6_matchPair_39 (lv_at hl 5 rfl) ?_
      refine lv_aload_n (pc := 41) C.1 C.2.1 dX6_matchPair_41 rfl (lv_at hl 0 rfl) ?_
      refine GX_X6_18_22 (pc := 42) C h dX6_matchPair_42 ?_
      refine lv_iload_n (pc := 45) C.1 C.2.1 dX6_matchPair_45 rfl (lv_at hl 1 rfl) ?_
      refine ldX_25 (pc := 46) C h hw.1 dX6_matchPair_46 ?_
      have hw := hw.2
      refine lv_icmp_ge (tgt := 290) (pc := 47) C.1 C.2.1 dX6_matchPair_47 (by decide) (fun c8 => ?_) (fun c8 => ?_)
      · have hw := hw.1 c8
        exact rt_v (pc := 290) C hr hlk h hw dX6_matchPair_290
      · have hw := hw.2 c8
        refine lv_aload_n (pc := 50) C.1 C.2.1 dX6_matchPair_50 rfl (lv_at hl 0 rfl) ?_
        refine GX_X6_21_22 (pc := 51) C h dX6_matchPair_51 ?_
        refine lv_iload_n (pc := 54) C.1 C.2.1 dX6_matchPair_54 rfl (lv_at hl 1 rfl) ?_
        refine lv_bipush (v := 24) (pc := 55) C.1 C.2.1 dX6_matchPair_55 (by decide) ?_
        refine lv_imul (pc := 57) C.1 C.2.1 dX6_matchPair_57 ?_
        refine lv_iload (pc := 58) C.1 C.2.1 dX6_matchPair_58 (lv_at hl 5 rfl) ?_
        refine lv_iadd (pc := 60) C.1 C.2.1 dX6_matchPair_60 ?_
        refine ldX_26 (pc := 61) C h hw.1 dX6_matchPair_61 ?_
        have hw := hw.2
        refine lv_topi (fun x9 ex9 => ?_)
        have hw := hw x9 ex9
        refine lv_istore (lv' := [(7, .int x9), (0, .ref (a 22)), (1, .int b1), (2, .int b2), (4, .int r2), (5, .int r4), (6, .int v5)]) (pc := 62) C.1 C.2.1 dX6_matchPair_62 hl (by decide) rfl (fun ls hl => ?_)
        refine lv_aload_n (pc := 64) C.1 C.2.1 dX6_matchPair_64 rfl (lv_at hl 1 rfl) ?_
        refine GX_X6_50_22 (pc := 65) C h dX6_matchPair_65 ?_
        refine GX_X6_99_13 (pc := 68) C h dX6_matchPair_68 ?_
        refine lv_aload_n (pc := 71) C.1 C.2.1 dX6_matchPair_71 rfl (lv_at hl 1 rfl) ?_
        refine GX_X6_9_22 (pc := 72) C h dX6_matchPair_72 ?_
        refine lv_iload_n (pc := 75) C.1 C.2.1 dX6_matchPair_75 rfl (lv_at hl 2 rfl) ?_
        refine ldX_23 (pc := 76) C h hw.1 dX6_matchPair_76 ?_
        have hw := hw.2
        refine ldX_15 (pc := 77) C h hw.1 dX6_matchPair_77 ?_
        have hw := hw.2
        refine lv_iload (pc := 78) C.1 C.2.1 dX6_matchPair_78 (lv_at hl 0 rfl) ?_
        refine lv_iadd (pc := 80) C.1 C.2.1 dX6_matchPair_80 ?_
        refine lv_topi (fun x10 ex10 => ?_)
        have hw := hw x10 ex10
        refine lv_istore (lv' := [(8, .int x10), (7, .int x9), (0, .ref (a 22)), (1, .int b1), (2, .int b2), (4, .int r2), (5, .int r4), (6, .int v5)]) (pc := 81) C.1 C.2.1 dX6_matchPair_81 hl (by decide) rfl (fun ls hl => ?_)
        refine lv_iload (pc := 83) C.1 C.2.1 dX6_matchPair_83 (lv_at hl 0 rfl) ?_
        refine lv_aload_n (pc := 85) C.1 C.2.1 dX6_matchPair_85 rfl (lv_at hl 2 rfl) ?_
        refine GX_X6_50_22 (pc := 86) C h dX6_matchPair_86 ?_
        refine GX_X6_104_13 (pc := 89) C h dX6_matchPair_89 ?_
        refine lv_aload_n (pc := 92) C.1 C.2.1 dX6_matchPair_92 rfl (lv_at hl 2 rfl) ?_
        refine GX_X6_9_22 (pc := 93) C h dX6_matchPair_93 ?_
        refine lv_iload_n (pc := 96) C.1 C.2.1 dX6_matchPair_96 rfl (lv_at hl 3 rfl) ?_
        refine ldX_23 (pc := 97) C h hw.1 dX6_matchPair_97 ?_
        have hw := hw.2
        refine ldX_17 (pc := 98) C h hw.1 dX6_matchPair_98 ?_
        have hw := hw.2
        refine lv_iadd (pc := 99) C.1 C.2.1 dX6_matchPair_99 ?_
        refine lv_topi (fun x11 ex11 => ?_)
        have hw := hw x11 ex11
        refine lv_istore (lv' := [(9, .int x11), (8, .int x10), (7, .int x9), (0, .ref (a 22)), (1, .int b1), (2, .int b2), (4, .int r2), (5, .int r4), (6, .int v5)]) (pc := 100) C.1 C.2.1 dX6_matchPair_100 hl (by decide) rfl (fun ls hl => ?_)
        refine lv_iconst (v := 0) (pc := 102) C.1 C.2.1 dX6_matchPair_102 (by decide) ?_
        have hw := hw (fun (v12 : Int32) (z14 : St) => ∀ (H : Heap) (locs : List Loc) (ls : Array Slot), wd D t A s (wX t a z14) H locs → lv_has ls 14 [(0, .ref (a 22)), (1, .int b1), (2, .int b2), (4, .int r2), (5, .int r4), (6, .int v5), (7, .int x9), (8, .int x10), (9, .int x11), (10, .int v12)] → W p l e (rmd 2) s m args below meth c H locs 0 0 (QV D t A (wX t a) P below args s) (F0 m 105 ls [])) (by
            intro v12 z14 hw H locs ls h hl
            refine lv_iload (pc := 105) C.1 C.2.1 dX6_matchPair_105 (lv_at hl 9 rfl) ?_
            refine lv_aload_n (pc := 107) C.1 C.2.1 dX6_matchPair_107 rfl (lv_at hl 0 rfl) ?_
            refine GX_X6_18_22 (pc := 108) C h dX6_matchPair_108 ?_
            refine lv_iload_n (pc := 111) C.1 C.2.1 dX6_matchPair_111 rfl (lv_at hl 2 rfl) ?_
            refine ldX_25 (pc := 112) C h hw.1 dX6_matchPair_112 ?_
            have hw := hw.2
            refine lv_icmp_ge (tgt := 284) (pc := 113) C.1 C.2.1 dX6_matchPair_113 (by decide) (fun c15 => ?_) (fun c15 => ?_)
            · have hw := hw.1 c15
              obtain ⟨x16, ex16⟩ : ∃ y : Int32, y = v5 + (1) := ⟨_, rfl⟩
              have hw := hw x16 ex16
              refine lv_iinc (v := x16) (lv' := [(6, .int x16), (0, .ref (a 22)), (1, .int b1), (2, .int b2), (4, .int r2), (5, .int r4), (7, .int x9), (8, .int x10), (9, .int x11), (10, .int v12)]) (pc := 284) C.1 C.2.1 dX6_matchPair_284 hl (k := 5) rfl (by rw [ex16]; rfl) (by decide) rfl (fun ls hl => ?_)
              refine lv_goto (tgt := 39) (pc := 287) C.1 C.2.1 dX6_matchPair_287 (by decide) ?_
              exact hw _ _ _ h (lv_sub hl [1, 2, 3, 4, 5, 0] rfl)
            · have hw := hw.2 c15
              refine lv_aload_n (pc := 116) C.1 C.2.1 dX6_matchPair_116 rfl (lv_at hl 0 rfl) ?_
              refine GX_X6_21_22 (pc := 117) C h dX6_matchPair_117 ?_
              refine lv_iload_n (pc := 120) C.1 C.2.1 dX6_matchPair_120 rfl (lv_at hl 2 rfl) ?_
              refine lv_bipush (v := 24) (pc := 121) C.1 C.2.1 dX6_matchPair_121 (by decide) ?_
              refine lv_imul (pc := 123) C.1 C.2.1 dX6_matchPair_123 ?_
              refine lv_iload (pc := 124) C.1 C.2.1 dX6_matchPair_124 (lv_at hl 9 rfl) ?_
              refine lv_iadd (pc := 126) C.1 C.2.1 dX6_matchPair_126 ?_
              refine ldX_26 (pc := 127) C h hw.1 dX6_matchPair_127 ?_
              have hw := hw.2
              refine lv_topi (fun x17 ex17 => ?_)
              have hw := hw x17 ex17
              refine lv_istore (lv' := [(11, .int x17), (0, .ref (a 22)), (1, .int b1), (2, .int b2), (4, .int r2), (5, .int r4), (6, .int v5), (7, .int x9), (8, .int x10), (9, .int x11), (10, .int v12)]) (pc := 128) C.1 C.2.1 dX6_matchPair_128 hl (by decide) rfl (fun ls hl => ?_)
              refine lv_aload_n (pc := 130) C.1 C.2.1 dX6_matchPair_130 rfl (lv_at hl 1 rfl) ?_
              refine GX_X6_50_22 (pc := 131) C h dX6_matchPair_131 ?_
              refine GX_X6_99_13 (pc := 134) C h dX6_matchPair_134 ?_
              refine lv_aload_n (pc := 137) C.1 C.2.1 dX6_matchPair_137 rfl (lv_at hl 1 rfl) ?_
              refine GX_X6_9_22 (pc := 138) C h dX6_matchPair_138 ?_
              refine lv_iload_n (pc := 141) C.1 C.2.1 dX6_matchPair_141 rfl (lv_at hl 3 rfl) ?_
              refine ldX_23 (pc := 142) C h hw.1 dX6_matchPair_142 ?_
              have hw := hw.2
              refine ldX_15 (pc := 143) C h hw.1 dX6_matchPair_143 ?_
              have hw := hw.2
              refine lv_iload (pc := 144) C.1 C.2.1 dX6_matchPair_144 (lv_at hl 0 rfl) ?_
              refine lv_iadd (pc := 146) C.1 C.2.1 dX6_matchPair_146 ?_
              refine lv_topi (fun x18 ex18 => ?_)
              have hw := hw x18 ex18
              refine lv_istore (lv' := [(12, .int x18), (11, .int x17), (0, .ref (a 22)), (1, .int b1), (2, .int b2), (4, .int r2), (5, .int r4), (6, .int v5), (7, .int x9), (8, .int x10), (9, .int x11), (10, .int v12)]) (pc := 147) C.1 C.2.1 dX6_matchPair_147 hl (by decide) rfl (fun ls hl => ?_)
              refine lv_iload (pc := 149) C.1 C.2.1 dX6_matchPair_149 (lv_at hl 0 rfl) ?_
              refine lv_aload_n (pc := 151) C.1 C.2.1 dX6_matchPair_151 rfl (lv_at hl 2 rfl) ?_
              refine GX_X6_50_22 (pc := 152) C h dX6_matchPair_152 ?_
              refine GX_X6_104_13 (pc := 155) C h dX6_matchPair_155 ?_
              refine lv_aload_n (pc := 158) C.1 C.2.1 dX6_matchPair_158 rfl (lv_at hl 2 rfl) ?_
              refine GX_X6_9_22 (pc := 159) C h dX6_matchPair_159 ?_
              refine lv_iload_n (pc := 162) C.1 C.2.1 dX6_matchPair_162 rfl (lv_at hl 4 rfl) ?_
              refine ldX_23 (pc := 163) C h hw.1 dX6_matchPair_163 ?_
              have hw := hw.2
              refine ldX_17 (pc := 164) C h hw.1 dX6_matchPair_164 ?_
              have hw := hw.2
              refine lv_iadd (pc := 165) C.1 C.2.1 dX6_matchPair_165 ?_
              refine lv_topi (fun x19 ex19 => ?_)
              have hw := hw x19 ex19
              refine lv_istore (lv' := [(13, .int x19), (12, .int x18), (11, .int x17), (0, .ref (a 22)), (1, .int b1), (2, .int b2), (4, .int r2), (5, .int r4), (6, .int v5), (7, .int x9), (8, .int x10), (9, .int x11), (10, .int v12)]) (pc := 166) C.1 C.2.1 dX6_matchPair_166 hl (by decide) rfl (fun ls hl => ?_)
              refine lv_iload (pc := 168) C.1 C.2.1 dX6_matchPair_168 (lv_at hl 6 rfl) ?_
              have hw := hw (fun (z21 : St) => ∀ (H : Heap) (locs : List Loc) (ls : Array Slot), wd D t A s (wX t a z21) H locs → lv_has ls 14 [(0, .ref (a 22)), (1, .int b1), (2, .int b2), (4, .int r2), (5, .int r4), (6, .int v5), (7, .int x9), (8, .int x10), (9, .int x11), (10, .int v12)] → W p l e (rmd 2) s m args below meth c H locs 0 0 (QV D t A (wX t a) P below args s) (F0 m 278 ls [])) (by
                  intro z21 hw H locs ls h hl
                  obtain ⟨x22, ex22⟩ : ∃ y : Int32, y = v12 + (1) := ⟨_, rfl⟩
                  have hw := hw x22 ex22
                  refine lv_iinc (v := x22) (lv' := [(10, .int x22), (0, .ref (a 22)), (1, .int b1), (2, .int b2), (4, .int r2), (5, .int r4), (6, .int v5), (7, .int x9), (8, .int x10), (9, .int x11)]) (pc := 278) C.1 C.2.1 dX6_matchPair_278 hl (k := 9) rfl (by rw [ex22]; rfl) (by decide) rfl (fun ls hl => ?_)
                  refine lv_goto (tgt := 105) (pc := 281) C.1 C.2.1 dX6_matchPair_281 (by decide) ?_
                  exact hw _ _ _ h (lv_sub hl [1, 2, 3, 4, 5, 6, 7, 8, 9, 0] rfl))
              have hw := hw (∀ (H : Heap) (locs : List Loc) (ls : Array Slot), wd D t A s (wX t a z14) H locs → lv_has ls 14 [(0, .ref (a 22)), (1, .int b1), (2, .int b2), (4, .int r2), (5, .int r4), (6, .int v5), (7, .int x9), (8, .int x10), (9, .int x11), (10, .int v12), (11, .int x17), (12, .int x18), (13, .int x19)] → W p l e (rmd 2) s m args below meth c H locs 0 0 (QV D t A (wX t a) P below args s) (F0 m 180 ls [])) (by
                  intro hw H locs ls h hl
                  refine lv_iload (pc := 180) C.1 C.2.1 dX6_matchPair_180 (lv_at hl 4 rfl) ?_
                  have hw := hw (∀ (H : Heap) (locs : List Loc) (ls : Array Slot), wd D t A s (wX t a z14) H locs → lv_has ls 14 [(0, .ref (a 22)), (1, .int b1), (2, .int b2), (4, .int r2), (5, .int r4), (6, .int v5), (7, .int x9), (8, .int x10), (9, .int x11), (10, .int v12), (11, .int x17), (12, .int x18), (13, .int x19)] → W p l e (rmd 2) s m args below meth c H locs 0 0 (QV D t A (wX t a) P below args s) (F0 m 195 ls [])) (by
                      intro hw H locs ls h hl
                      refine lv_iload (pc := 195) C.1 C.2.1 dX6_matchPair_195 (lv_at hl 11 rfl) ?_
                      refine lv_iload (pc := 197) C.1 C.2.1 dX6_matchPair_197 (lv_at hl 8 rfl) ?_
                      have hw := hw (∀ (H : Heap) (locs : List Loc) (ls : Array Slot), wd D t A s (wX t a z14) H locs → lv_has ls 14 [(0, .ref (a 22)), (1, .int b1), (2, .int b2), (4, .int r2), (5, .int r4), (6, .int v5), (7, .int x9), (8, .int x10), (9, .int x11), (10, .int v12), (11, .int x17)] → W p l e (rmd 2) s m args below meth c H locs 0 0 (QV D t A (wX t a) P below args s) (F0 m 232 ls [])) (by
                          intro hw H locs ls h hl
                          refine lv_aload_n (pc := 232) C.1 C.2.1 dX6_matchPair_232 rfl (lv_at hl 0 rfl) ?_
                          refine GX_X6_31_22 (pc := 233) C h dX6_matchPair_233 ?_
                          refine lv_iload_n (pc := 236) C.1 C.2.1 dX6_matchPair_236 rfl (lv_at hl 1 rfl) ?_
                          refine lv_bipush (v := 24) (pc := 237) C.1 C.2.1 dX6_matchPair_237 (by decide) ?_
                          refine lv_imul (pc := 239) C.1 C.2.1 dX6_matchPair_239 ?_
                          refine lv_iload (pc := 240) C.1 C.2.1 dX6_matchPair_240 (lv_at hl 6 rfl) ?_
                          refine lv_iadd (pc := 242) C.1 C.2.1 dX6_matchPair_242 ?_
                          refine lv_iconst (v := 5) (pc := 243) C.1 C.2.1 dX6_matchPair_243 (by decide) ?_
                          refine lv_imul (pc := 244) C.1 C.2.1 dX6_matchPair_244 ?_
                          refine lv_iload_n (pc := 245) C.1 C.2.1 dX6_matchPair_245 rfl (lv_at hl 2 rfl) ?_
                          refine lv_iadd (pc := 246) C.1 C.2.1 dX6_matchPair_246 ?_
                          refine lv_dup2_11 (pc := 247) C.1 C.2.1 dX6_matchPair_247 rfl rfl ?_
                          refine ldX_29 (pc := 248) C h hw.1 dX6_matchPair_248 ?_
                          have hw := hw.2
                          refine lv_iconst (v := 1) (pc := 249) C.1 C.2.1 dX6_matchPair_249 (by decide) ?_
                          refine lv_iload (pc := 250) C.1 C.2.1 dX6_matchPair_250 (lv_at hl 10 rfl) ?_
                          refine lv_ishl (pc := 252) C.1 C.2.1 dX6_matchPair_252 ?_
                          refine lv_ior (pc := 253) C.1 C.2.1 dX6_matchPair_253 ?_
                          refine stX_29 (pc := 254) C h hw.1 dX6_matchPair_254 (fun z26 ez26 H locs h => ?_)
                          have hw := hw.2 z26 ez26
                          refine lv_aload_n (pc := 255) C.1 C.2.1 dX6_matchPair_255 rfl (lv_at hl 0 rfl) ?_
                          refine GX_X6_31_22 (pc := 256) C h dX6_matchPair_256 ?_
                          refine lv_iload_n (pc := 259) C.1 C.2.1 dX6_matchPair_259 rfl (lv_at hl 2 rfl) ?_
                          refine lv_bipush (v := 24) (pc := 260) C.1 C.2.1 dX6_matchPair_260 (by decide) ?_
                          refine lv_imul (pc := 262) C.1 C.2.1 dX6_matchPair_262 ?_
                          refine lv_iload (pc := 263) C.1 C.2.1 dX6_matchPair_263 (lv_at hl 10 rfl) ?_
                          refine lv_iadd (pc := 265) C.1 C.2.1 dX6_matchPair_265 ?_
                          refine lv_iconst (v := 5) (pc := 266) C.1 C.2.1 dX6_matchPair_266 (by decide) ?_
                          refine lv_imul (pc := 267) C.1 C.2.1 dX6_matchPair_267 ?_
                          refine lv_iload_n (pc := 268) C.1 C.2.1 dX6_matchPair_268 rfl (lv_at hl 1 rfl) ?_
                          refine lv_iadd (pc := 269) C.1 C.2.1 dX6_matchPair_269 ?_
                          refine lv_dup2_11 (pc := 270) C.1 C.2.1 dX6_matchPair_270 rfl rfl ?_
                          refine ldX_29 (pc := 271) C h hw.1 dX6_matchPair_271 ?_
                          have hw := hw.2
                          refine lv_iconst (v := 1) (pc := 272) C.1 C.2.1 dX6_matchPair_272 (by decide) ?_
                          refine lv_iload (pc := 273) C.1 C.2.1 dX6_matchPair_273 (lv_at hl 6 rfl) ?_
                          refine lv_ishl (pc := 275) C.1 C.2.1 dX6_matchPair_275 ?_
                          refine lv_ior (pc := 276) C.1 C.2.1 dX6_matchPair_276 ?_
                          refine stX_29 (pc := 277) C h hw.1 dX6_matchPair_277 (fun z27 ez27 H locs h => ?_)
                          have hw := hw.2 z27 ez27
                          exact hw _ _ _ h (lv_sub hl [0, 1, 2, 3, 4, 5, 6, 7, 8, 9] rfl))
                      refine lv_icmp_ge (tgt := 232) (pc := 199) C.1 C.2.1 dX6_matchPair_199 (by decide) (fun c28 => ?_) (fun c28 => ?_)
                      · have hw := hw.1 c28
                        exact hw _ _ _ h (lv_sub hl [0, 1, 2, 3, 4, 5, 6, 7, 8, 9, 10] rfl)
                      · have hw := hw.2 c28
                        refine lv_iload (pc := 202) C.1 C.2.1 dX6_matchPair_202 (lv_at hl 7 rfl) ?_
                        refine lv_iload (pc := 204) C.1 C.2.1 dX6_matchPair_204 (lv_at hl 12 rfl) ?_
                        refine lv_icmp_ge (tgt := 232) (pc := 206) C.1 C.2.1 dX6_matchPair_206 (by decide) (fun c29 => ?_) (fun c29 => ?_)
                        · have hw := hw.1 c29
                          exact hw _ _ _ h (lv_sub hl [0, 1, 2, 3, 4, 5, 6, 7, 8, 9, 10] rfl)
                        · have hw := hw.2 c29
                          refine lv_aload_n (pc := 209) C.1 C.2.1 dX6_matchPair_209 rfl (lv_at hl 0 rfl) ?_
                          refine lv_aload_n (pc := 210) C.1 C.2.1 dX6_matchPair_210 rfl (lv_at hl 0 rfl) ?_
                          refine GX_X6_9_22 (pc := 211) C h dX6_matchPair_211 ?_
                          refine lv_iload_n (pc := 214) C.1 C.2.1 dX6_matchPair_214 rfl (lv_at hl 1 rfl) ?_
                          refine ldX_23 (pc := 215) C h hw.1 dX6_matchPair_215 ?_
                          have hw := hw.2
                          refine lv_iload (pc := 216) C.1 C.2.1 dX6_matchPair_216 (lv_at hl 7 rfl) ?_
                          refine lv_aload_n (pc := 218) C.1 C.2.1 dX6_matchPair_218 rfl (lv_at hl 0 rfl) ?_
                          refine GX_X6_9_22 (pc := 219) C h dX6_matchPair_219 ?_
                          refine lv_iload_n (pc := 222) C.1 C.2.1 dX6_matchPair_222 rfl (lv_at hl 2 rfl) ?_
                          refine ldX_23 (pc := 223) C h hw.1 dX6_matchPair_223 ?_
                          have hw := hw.2
                          refine lv_iload (pc := 224) C.1 C.2.1 dX6_matchPair_224 (lv_at hl 11 rfl) ?_
                          refine cl_vi (pc := 226) (As := [.int (gF z14 23 b1.toNatClampNeg), .int x10, .int (gF z14 23 b2.toNatClampNeg), .int x18]) (rest := []) C h (m_X6_areBorne l D t a (gF z14 23 b1.toNatClampNeg) x10 (gF z14 23 b2.toNatClampNeg) x18 z14 _ hw) mw_X6_areBorne lm_X6_107 md_X6_areBorne rcX_22 ⟨by decide, by decide⟩ ⟨Nat.zero_le _, Nat.zero_le _⟩ hl.1 rfl (Nat.le_of_ble_eq_true rfl) dX6_matchPair_226 (fun r31 z30 H locs hw h => ?_)
                          rw [hw.1] at h
                          have hw := hw.2
                          refine lv_if_eq (tgt := 278) (pc := 229) C.1 C.2.1 dX6_matchPair_229 (by decide) (fun c32 => ?_) (fun c32 => ?_)
                          · have hw := hw.1 c32
                            exact hw _ _ _ h (lv_sub hl [0, 1, 2, 3, 4, 5, 6, 7, 8, 9] rfl)
                          · have hw := hw.2 c32
                            exact hw _ _ _ h (lv_sub hl [0, 1, 2, 3, 4, 5, 6, 7, 8, 9, 10] rfl))
                  refine lv_if_eq (tgt := 195) (pc := 182) C.1 C.2.1 dX6_matchPair_182 (by decide) (fun c33 => ?_) (fun c33 => ?_)
                  · have hw := hw.1 c33
                    exact hw _ _ _ h (lv_sub hl [0, 1, 2, 3, 4, 5, 6, 7, 8, 9, 10, 11, 12] rfl)
                  · have hw := hw.2 c33
                    refine lv_iload (pc := 185) C.1 C.2.1 dX6_matchPair_185 (lv_at hl 7 rfl) ?_
                    refine lv_iload (pc := 187) C.1 C.2.1 dX6_matchPair_187 (lv_at hl 12 rfl) ?_
                    refine lv_icmp_ge (tgt := 195) (pc := 189) C.1 C.2.1 dX6_matchPair_189 (by decide) (fun c34 => ?_) (fun c34 => ?_)
                    · have hw := hw.1 c34
                      exact hw _ _ _ h (lv_sub hl [0, 1, 2, 3, 4, 5, 6, 7, 8, 9, 10, 11, 12] rfl)
                    · have hw := hw.2 c34
                      refine lv_goto (tgt := 278) (pc := 192) C.1 C.2.1 dX6_matchPair_192 (by decide) ?_
                      exact hw _ _ _ h (lv_sub hl [0, 1, 2, 3, 4, 5, 6, 7, 8, 9] rfl))
              refine lv_if_eq (tgt := 180) (pc := 170) C.1 C.2.1 dX6_matchPair_170 (by decide) (fun c35 => ?_) (fun c35 => ?_)
              · have hw := hw.1 c35
                exact hw _ _ _ h (lv_sub hl [3, 4, 5, 6, 7, 8, 9, 10, 11, 12, 2, 1, 0] rfl)
              · have hw := hw.2 c35
                refine lv_iload (pc := 173) C.1 C.2.1 dX6_matchPair_173 (lv_at hl 1 rfl) ?_
                refine lv_iload (pc := 175) C.1 C.2.1 dX6_matchPair_175 (lv_at hl 11 rfl) ?_
                refine lv_icmp_lt (tgt := 278) (pc := 177) C.1 C.2.1 dX6_matchPair_177 (by decide) (fun c36 => ?_) (fun c36 => ?_)
                · have hw := hw.1 c36
                  exact hw _ _ _ h (lv_sub hl [3, 4, 5, 6, 7, 8, 9, 10, 11, 12] rfl)
                · have hw := hw.2 c36
                  exact hw _ _ _ h (lv_sub hl [3, 4, 5, 6, 7, 8, 9, 10, 11, 12, 2, 1, 0] rfl))
        refine lv_istore (lv' := [(10, .int ((0 : Int32))), (9, .int x11), (8, .int x10), (7, .int x9), (0, .ref (a 22)), (1, .int b1), (2, .int b2), (4, .int r2), (5, .int r4), (6, .int v5)]) (pc := 103) C.1 C.2.1 dX6_matchPair_103 hl (by decide) rfl (fun ls hl => ?_)
        exact hw _ _ _ h (lv_sub hl [4, 5, 6, 7, 8, 9, 3, 2, 1, 0] rfl))
  refine lv_istore (lv' := [(6, .int ((0 : Int32))), (5, .int r4), (4, .int r2), (0, .ref (a 22)), (1, .int b1), (2, .int b2), (3, .ref (a 34))]) (pc := 37) C.1 C.2.1 dX6_matchPair_37 hl (by decide) rfl (fun ls hl => ?_)
  exact hw _ _ _ h (lv_sub hl [3, 4, 5, 2, 1, 0] rfl)

def wp_X6_prepare_34  (z : St) (P : Int32 → St → Prop) : Prop :=
  (∀ K2 : Int32 → St → Prop, (∀ (v1 : Int32) (z3 : St), ((((gI z3 2213) ≤ v1) → (∀ K7 : Int32 → Int32 → St → Prop, (∀ (v5 : Int32) (v6 : Int32) (z8 : St), (∀ K9 : Prop, ((vp_in ((0 : Int32)) 6 ∧ (∀ z10 : St, z10 = wL z8 31 (vp_updL (gG z8 31) ((0 : Int32)).toNatClampNeg ((0 : Int64))) → (∀ K12 : Int32 → St → Prop, (∀ (v11 : Int32) (z13 : St), ((((gI z13 2213) ≤ v11) → P ((1 : Int32)) z13) ∧ (¬ ((gI z13 2213) ≤ v11) → (vp_in v11 30 ∧ (((¬ (gF z13 30 v11.toNatClampNeg) = 0) → (vp_in ((0 : Int32)) 6 ∧ (vp_in v11 30 ∧ (wp_X6_leastOf v11 (gF z13 30 v11.toNatClampNeg) z13 (fun r17 => (vp_in ((0 : Int32)) 6 ∧ (∀ z18 : St, z18 = wL z13 31 (vp_updL (gG z13 31) ((0 : Int32)).toNatClampNeg ((gG z13 31 ((0 : Int32)).toNatClampNeg) + r17)) → (∀ x19 : Int32, x19 = v11 + (1) → K12 x19 z18)))))))) ∧ ((gF z13 30 v11.toNatClampNeg) = 0 → P ((0 : Int32)) z13))))) → K12 v11 z13) → K12 ((0 : Int32)) z10))) → K9) → (((v5 = 0) → K9) ∧ (¬ (v5 = 0) → (((((120 : Int32)) ≤ v6) → K9) ∧ (¬ (((120 : Int32)) ≤ v6) → (wp_X6_thinOut z8 (fun r23 z22 => (∀ x24 : Int32, x24 = v6 + (1) → K7 r23 x24 z22)))))))) → K7 v5 v6 z8) → K7 ((1 : Int32)) ((0 : Int32)) z3)) ∧ (¬ ((gI z3 2213) ≤ v1) → (∀ K26 : Int32 → St → Prop, (∀ (v25 : Int32) (z27 : St), ((((gI z27 2213) ≤ v25) → (∀ x29 : Int32, x29 = v1 + (1) → K2 x29 z27)) ∧ (¬ ((gI z27 2213) ≤ v25) → (wp_X6_matchPair_34 v1 v25 z27 (fun z30 => (∀ x32 : Int32, x32 = v25 + (1) → K26 x32 z30))))) → K26 v25 z27) → (∀ x33 : Int32, x33 = v1 + ((1 : Int32)) → K26 x33 z3)))) → K2 v1 z3) → K2 ((0 : Int32)) z)
set_option maxHeartbeats 4000000 in
set_option maxRecDepth 100000 in
theorem m_X6_prepare_34 (l : Launch) (D : va_G) (t : Ty3) (a : Nat → Nat)  (z : St) (P : Int32 → St → Prop) (hw : wp_X6_prepare_34 z P) : CtI l D t yX6_prepare cX6_prepare 4 (some .boolean) 3 (wX t a) (wX t a z) [.ref (a 22), .ref (a 34)] P := by
  refine ctI_of (by decide) (Nat.le_of_ble_eq_true rfl) ?_
  intro p e s m args below meth c A ls C hr hlk h hl
  have hl : lv_has ls 4 [(0, .ref (a 22)), (1, .ref (a 34))] := hl
  unfold wp_X6_prepare_34 at hw
  refine lv_iconst (v := 0) (pc := 0) C.1 C.2.1 dX6_prepare_0 (by decide) ?_
  have hw := hw (fun (v1 : Int32) (z3 : St) => ∀ (H : Heap) (locs : List Loc) (ls : Array Slot), wd D t A s (wX t a z3) H locs → lv_has ls 4 [(0, .ref (a 22)), (1, .ref (a 34)), (2, .int v1)] → W p l e (rmd 3) s m args below meth c H locs 0 0 (QI D t A (wX t a) P below args s) (F0 m 2 ls [])) (by
      intro v1 z3 hw H locs ls h hl
      refine lv_iload_n (pc := 2) C.1 C.2.1 dX6_prepare_2 rfl (lv_at hl 2 rfl) ?_
      refine lv_aload_n (pc := 3) C.1 C.2.1 dX6_prepare_3 rfl (lv_at hl 0 rfl) ?_
      refine GX_X6_54_22 (pc := 4) C h dX6_prepare_4 ?_
      refine lv_icmp_ge (tgt := 41) (pc := 7) C.1 C.2.1 dX6_prepare_7 (by decide) (fun c4 => ?_) (fun c4 => ?_)
      · have hw := hw.1 c4
        refine lv_iconst (v := 1) (pc := 41) C.1 C.2.1 dX6_prepare_41 (by decide) ?_
        refine lv_istore_n (lv' := [(2, .int ((1 : Int32))), (0, .ref (a 22)), (1, .ref (a 34))]) (pc := 42) C.1 C.2.1 dX6_prepare_42 rfl hl (by decide) rfl (fun ls hl => ?_)
        refine lv_iconst (v := 0) (pc := 43) C.1 C.2.1 dX6_prepare_43 (by decide) ?_
        have hw := hw (fun (v5 : Int32) (v6 : Int32) (z8 : St) => ∀ (H : Heap) (locs : List Loc) (ls : Array Slot), wd D t A s (wX t a z8) H locs → lv_has ls 4 [(0, .ref (a 22)), (2, .int v5), (3, .int v6)] → W p l e (rmd 3) s m args below meth c H locs 0 0 (QI D t A (wX t a) P below args s) (F0 m 45 ls [])) (by
            intro v5 v6 z8 hw H locs ls h hl
            refine lv_iload_n (pc := 45) C.1 C.2.1 dX6_prepare_45 rfl (lv_at hl 1 rfl) ?_
            have hw := hw (∀ (H : Heap) (locs : List Loc) (ls : Array Slot), wd D t A s (wX t a z8) H locs → lv_has ls 4 [(0, .ref (a 22))] → W p l e (rmd 3) s m args below meth c H locs 0 0 (QI D t A (wX t a) P below args s) (F0 m 66 ls [])) (by
                intro hw H locs ls h hl
                refine lv_aload_n (pc := 66) C.1 C.2.1 dX6_prepare_66 rfl (lv_at hl 0 rfl) ?_
                refine GX_X6_37_22 (pc := 67) C h dX6_prepare_67 ?_
                refine lv_iconst (v := 0) (pc := 70) C.1 C.2.1 dX6_prepare_70 (by decide) ?_
                refine lv_lconst (v := 0) (pc := 71) C.1 C.2.1 dX6_prepare_71 (by decide) ?_
                refine stX_31 (pc := 72) C h hw.1 dX6_prepare_72 (fun z10 ez10 H locs h => ?_)
                have hw := hw.2 z10 ez10
                refine lv_iconst (v := 0) (pc := 73) C.1 C.2.1 dX6_prepare_73 (by decide) ?_
                have hw := hw (fun (v11 : Int32) (z13 : St) => ∀ (H : Heap) (locs : List Loc) (ls : Array Slot), wd D t A s (wX t a z13) H locs → lv_has ls 4 [(0, .ref (a 22)), (3, .int v11)] → W p l e (rmd 3) s m args below meth c H locs 0 0 (QI D t A (wX t a) P below args s) (F0 m 75 ls [])) (by
                    intro v11 z13 hw H locs ls h hl
                    refine lv_iload_n (pc := 75) C.1 C.2.1 dX6_prepare_75 rfl (lv_at hl 1 rfl) ?_
                    refine lv_aload_n (pc := 76) C.1 C.2.1 dX6_prepare_76 rfl (lv_at hl 0 rfl) ?_
                    refine GX_X6_54_22 (pc := 77) C h dX6_prepare_77 ?_
                    refine lv_icmp_ge (tgt := 120) (pc := 80) C.1 C.2.1 dX6_prepare_80 (by decide) (fun c14 => ?_) (fun c14 => ?_)
                    · have hw := hw.1 c14
                      refine lv_iconst (v := 1) (pc := 120) C.1 C.2.1 dX6_prepare_120 (by decide) ?_
                      exact rt_z (pc := 121) C hr hlk h (Or.inr rfl) hw dX6_prepare_121
                    · have hw := hw.2 c14
                      refine lv_aload_n (pc := 83) C.1 C.2.1 dX6_prepare_83 rfl (lv_at hl 0 rfl) ?_
                      refine GX_X6_34_22 (pc := 84) C h dX6_prepare_84 ?_
                      refine lv_iload_n (pc := 87) C.1 C.2.1 dX6_prepare_87 rfl (lv_at hl 1 rfl) ?_
                      refine ldX_30 (pc := 88) C h hw.1 dX6_prepare_88 ?_
                      have hw := hw.2
                      refine lv_if_ne (tgt := 94) (pc := 89) C.1 C.2.1 dX6_prepare_89 (by decide) (fun c15 => ?_) (fun c15 => ?_)
                      · have hw := hw.1 c15
                        refine lv_aload_n (pc := 94) C.1 C.2.1 dX6_prepare_94 rfl (lv_at hl 0 rfl) ?_
                        refine GX_X6_37_22 (pc := 95) C h dX6_prepare_95 ?_
                        refine lv_iconst (v := 0) (pc := 98) C.1 C.2.1 dX6_prepare_98 (by decide) ?_
                        refine lv_dup2_11 (pc := 99) C.1 C.2.1 dX6_prepare_99 rfl rfl ?_
                        refine ldX_31 (pc := 100) C h hw.1 dX6_prepare_100 ?_
                        have hw := hw.2
                        refine lv_aload_n (pc := 101) C.1 C.2.1 dX6_prepare_101 rfl (lv_at hl 0 rfl) ?_
                        refine lv_iload_n (pc := 102) C.1 C.2.1 dX6_prepare_102 rfl (lv_at hl 1 rfl) ?_
                        refine lv_aload_n (pc := 103) C.1 C.2.1 dX6_prepare_103 rfl (lv_at hl 0 rfl) ?_
                        refine GX_X6_34_22 (pc := 104) C h dX6_prepare_104 ?_
                        refine lv_iload_n (pc := 107) C.1 C.2.1 dX6_prepare_107 rfl (lv_at hl 1 rfl) ?_
                        refine ldX_30 (pc := 108) C h hw.1 dX6_prepare_108 ?_
                        have hw := hw.2
                        refine cl_vl (pc := 109) (As := [.int v11, .int (gF z13 30 v11.toNatClampNeg)]) (rest := [.long (gG z13 31 ((0 : Int32)).toNatClampNeg), .int ((0 : Int32)), .ref (a 31)]) C h (m_X6_leastOf l D t a v11 (gF z13 30 v11.toNatClampNeg) z13 _ hw) mw_X6_leastOf lm_X6_85 md_X6_leastOf rcX_22 ⟨by decide, by decide⟩ ⟨Nat.zero_le _, Nat.zero_le _⟩ hl.1 rfl (Nat.le_of_ble_eq_true rfl) dX6_prepare_109 (fun r17 z16 H locs hw h => ?_)
                        rw [hw.1] at h
                        have hw := hw.2
                        refine lv_ladd (pc := 112) C.1 C.2.1 dX6_prepare_112 ?_
                        refine stX_31 (pc := 113) C h hw.1 dX6_prepare_113 (fun z18 ez18 H locs h => ?_)
                        have hw := hw.2 z18 ez18
                        obtain ⟨x19, ex19⟩ : ∃ y : Int32, y = v11 + (1) := ⟨_, rfl⟩
                        have hw := hw x19 ex19
                        refine lv_iinc (v := x19) (lv' := [(3, .int x19), (0, .ref (a 22))]) (pc := 114) C.1 C.2.1 dX6_prepare_114 hl (k := 1) rfl (by rw [ex19]; rfl) (by decide) rfl (fun ls hl => ?_)
                        refine lv_goto (tgt := 75) (pc := 117) C.1 C.2.1 dX6_prepare_117 (by decide) ?_
                        exact hw _ _ _ h (lv_sub hl [1, 0] rfl)
                      · have hw := hw.2 c15
                        refine lv_iconst (v := 0) (pc := 92) C.1 C.2.1 dX6_prepare_92 (by decide) ?_
                        exact rt_z (pc := 93) C hr hlk h (Or.inl rfl) hw dX6_prepare_93)
                refine lv_istore_n (lv' := [(3, .int ((0 : Int32))), (0, .ref (a 22))]) (pc := 74) C.1 C.2.1 dX6_prepare_74 rfl hl (by decide) rfl (fun ls hl => ?_)
                exact hw _ _ _ h (lv_sub hl [1, 0] rfl))
            refine lv_if_eq (tgt := 66) (pc := 46) C.1 C.2.1 dX6_prepare_46 (by decide) (fun c20 => ?_) (fun c20 => ?_)
            · have hw := hw.1 c20
              exact hw _ _ _ h (lv_sub hl [0] rfl)
            · have hw := hw.2 c20
              refine lv_iload_n (pc := 49) C.1 C.2.1 dX6_prepare_49 rfl (lv_at hl 2 rfl) ?_
              refine lv_bipush (v := 120) (pc := 50) C.1 C.2.1 dX6_prepare_50 (by decide) ?_
              refine lv_icmp_ge (tgt := 66) (pc := 52) C.1 C.2.1 dX6_prepare_52 (by decide) (fun c21 => ?_) (fun c21 => ?_)
              · have hw := hw.1 c21
                exact hw _ _ _ h (lv_sub hl [0] rfl)
              · have hw := hw.2 c21
                refine lv_aload_n (pc := 55) C.1 C.2.1 dX6_prepare_55 rfl (lv_at hl 0 rfl) ?_
                refine cl_vi (pc := 56) (As := []) (rest := []) C h (m_X6_thinOut l D t a z8 _ hw) mw_X6_thinOut lm_X6_81 md_X6_thinOut rcX_22 ⟨by decide, by decide⟩ ⟨Nat.zero_le _, Nat.zero_le _⟩ hl.1 rfl (Nat.le_of_ble_eq_true rfl) dX6_prepare_56 (fun r23 z22 H locs hw h => ?_)
                refine lv_istore_n (lv' := [(2, .int r23), (0, .ref (a 22)), (3, .int v6)]) (pc := 59) C.1 C.2.1 dX6_prepare_59 rfl hl (by decide) rfl (fun ls hl => ?_)
                obtain ⟨x24, ex24⟩ : ∃ y : Int32, y = v6 + (1) := ⟨_, rfl⟩
                have hw := hw x24 ex24
                refine lv_iinc (v := x24) (lv' := [(3, .int x24), (2, .int r23), (0, .ref (a 22))]) (pc := 60) C.1 C.2.1 dX6_prepare_60 hl (k := 2) rfl (by rw [ex24]; rfl) (by decide) rfl (fun ls hl => ?_)
                refine lv_goto (tgt := 45) (pc := 63) C.1 C.2.1 dX6_prepare_63 (by decide) ?_
                exact hw _ _ _ h (lv_sub hl [2, 1, 0] rfl))
        refine lv_istore_n (lv' := [(3, .int ((0 : Int32))), (2, .int ((1 : Int32))), (0, .ref (a 22)), (1, .ref (a 34))]) (pc := 44) C.1 C.2.1 dX6_prepare_44 rfl hl (by decide) rfl (fun ls hl => ?_)
        exact hw _ _ _ h (lv_sub hl [2, 1, 0] rfl)
      · have hw := hw.2 c4
        refine lv_iload_n (pc := 10) C.1 C.2.1 dX6_prepare_10 rfl (lv_at hl 2 rfl) ?_
        refine lv_iconst (v := 1) (pc := 11) C.1 C.2.1 dX6_prepare_11 (by decide) ?_
        refine lv_iadd (pc := 12) C.1 C.2.1 dX6_prepare_12 ?_
        have hw := hw (fun (v25 : Int32) (z27 : St) => ∀ (H : Heap) (locs : List Loc) (ls : Array Slot), wd D t A s (wX t a z27) H locs → lv_has ls 4 [(0, .ref (a 22)), (1, .ref (a 34)), (2, .int v1), (3, .int v25)] → W p l e (rmd 3) s m args below meth c H locs 0 0 (QI D t A (wX t a) P below args s) (F0 m 14 ls [])) (by
            intro v25 z27 hw H locs ls h hl
            refine lv_iload_n (pc := 14) C.1 C.2.1 dX6_prepare_14 rfl (lv_at hl 3 rfl) ?_
            refine lv_aload_n (pc := 15) C.1 C.2.1 dX6_prepare_15 rfl (lv_at hl 0 rfl) ?_
            refine GX_X6_54_22 (pc := 16) C h dX6_prepare_16 ?_
            refine lv_icmp_ge (tgt := 35) (pc := 19) C.1 C.2.1 dX6_prepare_19 (by decide) (fun c28 => ?_) (fun c28 => ?_)
            · have hw := hw.1 c28
              obtain ⟨x29, ex29⟩ : ∃ y : Int32, y = v1 + (1) := ⟨_, rfl⟩
              have hw := hw x29 ex29
              refine lv_iinc (v := x29) (lv' := [(2, .int x29), (0, .ref (a 22)), (1, .ref (a 34)), (3, .int v25)]) (pc := 35) C.1 C.2.1 dX6_prepare_35 hl (k := 2) rfl (by rw [ex29]; rfl) (by decide) rfl (fun ls hl => ?_)
              refine lv_goto (tgt := 2) (pc := 38) C.1 C.2.1 dX6_prepare_38 (by decide) ?_
              exact hw _ _ _ h (lv_sub hl [1, 2, 0] rfl)
            · have hw := hw.2 c28
              refine lv_aload_n (pc := 22) C.1 C.2.1 dX6_prepare_22 rfl (lv_at hl 0 rfl) ?_
              refine lv_iload_n (pc := 23) C.1 C.2.1 dX6_prepare_23 rfl (lv_at hl 2 rfl) ?_
              refine lv_iload_n (pc := 24) C.1 C.2.1 dX6_prepare_24 rfl (lv_at hl 3 rfl) ?_
              refine lv_aload_n (pc := 25) C.1 C.2.1 dX6_prepare_25 rfl (lv_at hl 1 rfl) ?_
              refine cl_vv (pc := 26) (As := [.int v1, .int v25, .ref (a 34)]) (rest := []) C h (m_X6_matchPair_34 l D t a v1 v25 z27 _ hw) mw_X6_matchPair lm_X6_77 md_X6_matchPair rcX_22 ⟨by decide, by decide⟩ ⟨Nat.zero_le _, Nat.zero_le _⟩ hl.1 rfl (Nat.le_of_ble_eq_true rfl) dX6_prepare_26 (fun z30 H locs hw h => ?_)
              obtain ⟨x32, ex32⟩ : ∃ y : Int32, y = v25 + (1) := ⟨_, rfl⟩
              have hw := hw x32 ex32
              refine lv_iinc (v := x32) (lv' := [(3, .int x32), (0, .ref (a 22)), (1, .ref (a 34)), (2, .int v1)]) (pc := 29) C.1 C.2.1 dX6_prepare_29 hl (k := 3) rfl (by rw [ex32]; rfl) (by decide) rfl (fun ls hl => ?_)
              refine lv_goto (tgt := 14) (pc := 32) C.1 C.2.1 dX6_prepare_32 (by decide) ?_
              exact hw _ _ _ h (lv_sub hl [1, 2, 3, 0] rfl))
        refine lv_topi (fun x33 ex33 => ?_)
        have hw := hw x33 ex33
        refine lv_istore_n (lv' := [(3, .int x33), (0, .ref (a 22)), (1, .ref (a 34)), (2, .int v1)]) (pc := 13) C.1 C.2.1 dX6_prepare_13 rfl hl (by decide) rfl (fun ls hl => ?_)
        exact hw _ _ _ h (lv_sub hl [1, 2, 3, 0] rfl))
  refine lv_istore_n (lv' := [(2, .int ((0 : Int32))), (0, .ref (a 22)), (1, .ref (a 34))]) (pc := 1) C.1 C.2.1 dX6_prepare_1 rfl hl (by decide) rfl (fun ls hl => ?_)
  exact hw _ _ _ h (lv_sub hl [1, 2, 0] rfl)

def wp_X6_keepWay (b1 : Int64) (z : St) (P : St → Prop) : Prop :=
  (((0 ≤ (lg_cmp b1 (gJ z 2215))) → P z) ∧ (¬ (0 ≤ (lg_cmp b1 (gJ z 2215))) → ((¬ ((0 : Int32)) < 0 ∧ ¬ ((0 : Int32)) < 0 ∧ ¬ ((5 : Int32)) < 0 ∧ ((0 : Int32)).toNatClampNeg + ((5 : Int32)).toNatClampNeg ≤ 5 ∧ ((0 : Int32)).toNatClampNeg + ((5 : Int32)).toNatClampNeg ≤ 5) ∧ (∀ z2 : St, z2 = wR z 33 (va_cpy (gF z 32) (gF z 33) ((0 : Int32)).toNatClampNeg ((0 : Int32)).toNatClampNeg ((5 : Int32)).toNatClampNeg) → (∀ z3 : St, z3 = wJ z2 2214 b1 → ((((gI z3 2216) = 0) → (∀ z5 : St, z5 = wJ z3 2215 b1 → P z5)) ∧ (¬ ((gI z3 2216) = 0) → (∀ z6 : St, z6 = wJ z3 2215 ((-1000000000000000000 : Int64)) → P z6))))))))
set_option maxHeartbeats 4000000 in
set_option maxRecDepth 100000 in
theorem m_X6_keepWay (l : Launch) (D : va_G) (t : Ty3) (a : Nat → Nat) (b1 : Int64) (z : St) (P : St → Prop) (hw : wp_X6_keepWay b1 z P) : CtV l D t yX6_keepWay cX6_keepWay 3 none 1 (wX t a) (wX t a z) [.ref (a 22), .long b1] P := by
  refine ctV_of (by decide) (Nat.le_of_ble_eq_true rfl) ?_
  intro p e s m args below meth c A ls C hr hlk h hl
  have hl : lv_has ls 3 [(0, .ref (a 22)), (1, .long b1)] := hl
  unfold wp_X6_keepWay at hw
  refine lv_lload_n (pc := 0) C.1 C.2.1 dX6_keepWay_0 rfl (lv_at hl 1 rfl) ?_
  refine lv_aload_n (pc := 1) C.1 C.2.1 dX6_keepWay_1 rfl (lv_at hl 0 rfl) ?_
  refine GX_X6_64_22 (pc := 2) C h dX6_keepWay_2 ?_
  refine W.lcmp (pc := 5) C.1 C.2.1 dX6_keepWay_5 ?_
  refine lv_if_ge (tgt := 46) (pc := 6) C.1 C.2.1 dX6_keepWay_6 (by decide) (fun c1 => ?_) (fun c1 => ?_)
  · have hw := hw.1 c1
    exact rt_v (pc := 46) C hr hlk h hw dX6_keepWay_46
  · have hw := hw.2 c1
    refine lv_aload_n (pc := 9) C.1 C.2.1 dX6_keepWay_9 rfl (lv_at hl 0 rfl) ?_
    refine GX_X6_40_22 (pc := 10) C h dX6_keepWay_10 ?_
    refine lv_iconst (v := 0) (pc := 13) C.1 C.2.1 dX6_keepWay_13 (by decide) ?_
    refine lv_aload_n (pc := 14) C.1 C.2.1 dX6_keepWay_14 rfl (lv_at hl 0 rfl) ?_
    refine GX_X6_43_22 (pc := 15) C h dX6_keepWay_15 ?_
    refine lv_iconst (v := 0) (pc := 18) C.1 C.2.1 dX6_keepWay_18 (by decide) ?_
    refine lv_iconst (v := 5) (pc := 19) C.1 C.2.1 dX6_keepWay_19 (by decide) ?_
    refine cpX_32_33 (pc := 20) C lm_X6_162 h hw.1 ⟨by decide, by decide⟩ hl.1 (Nat.le_of_ble_eq_true rfl) dX6_keepWay_20 (fun z2 ez2 H locs h => ?_)
    have hw := hw.2 z2 ez2
    refine lv_aload_n (pc := 23) C.1 C.2.1 dX6_keepWay_23 rfl (lv_at hl 0 rfl) ?_
    refine lv_lload_n (pc := 24) C.1 C.2.1 dX6_keepWay_24 rfl (lv_at hl 1 rfl) ?_
    refine PX_X6_58_22 (pc := 25) C h dX6_keepWay_25 (fun z3 ez3 H locs h => ?_)
    have hw := hw z3 ez3
    refine lv_aload_n (pc := 28) C.1 C.2.1 dX6_keepWay_28 rfl (lv_at hl 0 rfl) ?_
    refine lv_aload_n (pc := 29) C.1 C.2.1 dX6_keepWay_29 rfl (lv_at hl 0 rfl) ?_
    refine GX_X6_67_22 (pc := 30) C h dX6_keepWay_30 ?_
    refine lv_if_eq (tgt := 42) (pc := 33) C.1 C.2.1 dX6_keepWay_33 (by decide) (fun c4 => ?_) (fun c4 => ?_)
    · have hw := hw.1 c4
      refine lv_lload_n (pc := 42) C.1 C.2.1 dX6_keepWay_42 rfl (lv_at hl 1 rfl) ?_
      refine PX_X6_64_22 (pc := 43) C h dX6_keepWay_43 (fun z5 ez5 H locs h => ?_)
      have hw := hw z5 ez5
      exact rt_v (pc := 46) C hr hlk h hw dX6_keepWay_46
    · have hw := hw.2 c4
      refine lv_ldc2 (pc := 36) C.1 C.2.1 C.2.2.2.1 (C.2.2.2.2 _ lc_X6_168) dX6_keepWay_36 ?_
      refine lv_goto (tgt := 43) (pc := 39) C.1 C.2.1 dX6_keepWay_39 (by decide) ?_
      refine PX_X6_64_22 (pc := 43) C h dX6_keepWay_43 (fun z6 ez6 H locs h => ?_)
      have hw := hw z6 ez6
      exact rt_v (pc := 46) C hr hlk h hw dX6_keepWay_46

def wp_X6_narrow (b1 : Int32) (b2 : Int32) (z : St) (P : Int32 → St → Prop) : Prop :=
  (∀ K3 : Int64 → Int32 → St → Prop, (∀ (v1 : Int64) (v2 : Int32) (z4 : St), ((((gI z4 2213) ≤ v2) → (vp_in (b1 + ((1 : Int32))) 6 ∧ (∀ z6 : St, z6 = wL z4 31 (vp_updL (gG z4 31) (b1 + ((1 : Int32))).toNatClampNeg v1) → P ((1 : Int32)) z6))) ∧ (¬ ((gI z4 2213) ≤ v2) → (vp_in ((b1 * ((5 : Int32))) + v2) 30 ∧ (vp_in ((((b1 * ((24 : Int32))) + b2) * ((5 : Int32))) + v2) 600 ∧ (∀ x7 : Int32, x7 = (gF z4 30 ((b1 * ((5 : Int32))) + v2).toNatClampNeg) &&& (gF z4 29 ((((b1 * ((24 : Int32))) + b2) * ((5 : Int32))) + v2).toNatClampNeg) → (((¬ x7 = 0) → (vp_in (((b1 + ((1 : Int32))) * ((5 : Int32))) + v2) 30 ∧ (∀ z9 : St, z9 = wR z4 30 (upd (gF z4 30) (((b1 + ((1 : Int32))) * ((5 : Int32))) + v2).toNatClampNeg x7) → (wp_X6_leastOf v2 x7 z9 (fun r11 => (∀ x12 : Int64, x12 = v1 + r11 → (∀ x13 : Int32, x13 = v2 + (1) → K3 x12 x13 z9))))))) ∧ (x7 = 0 → P ((0 : Int32)) z4))))))) → K3 v1 v2 z4) → (∀ x14 : Int32, x14 = b1 + ((1 : Int32)) → K3 ((0 : Int64)) x14 z))
set_option maxHeartbeats 4000000 in
set_option maxRecDepth 100000 in
theorem m_X6_narrow (l : Launch) (D : va_G) (t : Ty3) (a : Nat → Nat) (b1 : Int32) (b2 : Int32) (z : St) (P : Int32 → St → Prop) (hw : wp_X6_narrow b1 b2 z P) : CtI l D t yX6_narrow cX6_narrow 7 (some .boolean) 1 (wX t a) (wX t a z) [.ref (a 22), .int b1, .int b2] P := by
  refine ctI_of (by decide) (Nat.le_of_ble_eq_true rfl) ?_
  intro p e s m args below meth c A ls C hr hlk h hl
  have hl : lv_has ls 7 [(0, .ref (a 22)), (1, .int b1), (2, .int b2)] := hl
  unfold wp_X6_narrow at hw
  refine lv_lconst (v := 0) (pc := 0) C.1 C.2.1 dX6_narrow_0 (by decide) ?_
  refine lv_lstore_n (lv' := [(3, .long ((0 : Int64))), (0, .ref (a 22)), (1, .int b1), (2, .int b2)]) (pc := 1) C.1 C.2.1 dX6_narrow_1 rfl hl (by decide) rfl (fun ls hl => ?_)
  refine lv_iload_n (pc := 2) C.1 C.2.1 dX6_narrow_2 rfl (lv_at hl 2 rfl) ?_
  refine lv_iconst (v := 1) (pc := 3) C.1 C.2.1 dX6_narrow_3 (by decide) ?_
  refine lv_iadd (pc := 4) C.1 C.2.1 dX6_narrow_4 ?_
  have hw := hw (fun (v1 : Int64) (v2 : Int32) (z4 : St) => ∀ (H : Heap) (locs : List Loc) (ls : Array Slot), wd D t A s (wX t a z4) H locs → lv_has ls 7 [(0, .ref (a 22)), (1, .int b1), (2, .int b2), (3, .long v1), (5, .int v2)] → W p l e (rmd 1) s m args below meth c H locs 0 0 (QI D t A (wX t a) P below args s) (F0 m 7 ls [])) (by
      intro v1 v2 z4 hw H locs ls h hl
      refine lv_iload (pc := 7) C.1 C.2.1 dX6_narrow_7 (lv_at hl 4 rfl) ?_
      refine lv_aload_n (pc := 9) C.1 C.2.1 dX6_narrow_9 rfl (lv_at hl 0 rfl) ?_
      refine GX_X6_54_22 (pc := 10) C h dX6_narrow_10 ?_
      refine lv_icmp_ge (tgt := 85) (pc := 13) C.1 C.2.1 dX6_narrow_13 (by decide) (fun c5 => ?_) (fun c5 => ?_)
      · have hw := hw.1 c5
        refine lv_aload_n (pc := 85) C.1 C.2.1 dX6_narrow_85 rfl (lv_at hl 0 rfl) ?_
        refine GX_X6_37_22 (pc := 86) C h dX6_narrow_86 ?_
        refine lv_iload_n (pc := 89) C.1 C.2.1 dX6_narrow_89 rfl (lv_at hl 1 rfl) ?_
        refine lv_iconst (v := 1) (pc := 90) C.1 C.2.1 dX6_narrow_90 (by decide) ?_
        refine lv_iadd (pc := 91) C.1 C.2.1 dX6_narrow_91 ?_
        refine lv_lload_n (pc := 92) C.1 C.2.1 dX6_narrow_92 rfl (lv_at hl 3 rfl) ?_
        refine stX_31 (pc := 93) C h hw.1 dX6_narrow_93 (fun z6 ez6 H locs h => ?_)
        have hw := hw.2 z6 ez6
        refine lv_iconst (v := 1) (pc := 94) C.1 C.2.1 dX6_narrow_94 (by decide) ?_
        exact rt_z (pc := 95) C hr hlk h (Or.inr rfl) hw dX6_narrow_95
      · have hw := hw.2 c5
        refine lv_aload_n (pc := 16) C.1 C.2.1 dX6_narrow_16 rfl (lv_at hl 0 rfl) ?_
        refine GX_X6_34_22 (pc := 17) C h dX6_narrow_17 ?_
        refine lv_iload_n (pc := 20) C.1 C.2.1 dX6_narrow_20 rfl (lv_at hl 1 rfl) ?_
        refine lv_iconst (v := 5) (pc := 21) C.1 C.2.1 dX6_narrow_21 (by decide) ?_
        refine lv_imul (pc := 22) C.1 C.2.1 dX6_narrow_22 ?_
        refine lv_iload (pc := 23) C.1 C.2.1 dX6_narrow_23 (lv_at hl 4 rfl) ?_
        refine lv_iadd (pc := 25) C.1 C.2.1 dX6_narrow_25 ?_
        refine ldX_30 (pc := 26) C h hw.1 dX6_narrow_26 ?_
        have hw := hw.2
        refine lv_aload_n (pc := 27) C.1 C.2.1 dX6_narrow_27 rfl (lv_at hl 0 rfl) ?_
        refine GX_X6_31_22 (pc := 28) C h dX6_narrow_28 ?_
        refine lv_iload_n (pc := 31) C.1 C.2.1 dX6_narrow_31 rfl (lv_at hl 1 rfl) ?_
        refine lv_bipush (v := 24) (pc := 32) C.1 C.2.1 dX6_narrow_32 (by decide) ?_
        refine lv_imul (pc := 34) C.1 C.2.1 dX6_narrow_34 ?_
        refine lv_iload_n (pc := 35) C.1 C.2.1 dX6_narrow_35 rfl (lv_at hl 2 rfl) ?_
        refine lv_iadd (pc := 36) C.1 C.2.1 dX6_narrow_36 ?_
        refine lv_iconst (v := 5) (pc := 37) C.1 C.2.1 dX6_narrow_37 (by decide) ?_
        refine lv_imul (pc := 38) C.1 C.2.1 dX6_narrow_38 ?_
        refine lv_iload (pc := 39) C.1 C.2.1 dX6_narrow_39 (lv_at hl 4 rfl) ?_
        refine lv_iadd (pc := 41) C.1 C.2.1 dX6_narrow_41 ?_
        refine ldX_29 (pc := 42) C h hw.1 dX6_narrow_42 ?_
        have hw := hw.2
        refine lv_iand (pc := 43) C.1 C.2.1 dX6_narrow_43 ?_
        refine lv_topi (fun x7 ex7 => ?_)
        have hw := hw x7 ex7
        refine lv_istore (lv' := [(6, .int x7), (0, .ref (a 22)), (1, .int b1), (2, .int b2), (3, .long v1), (5, .int v2)]) (pc := 44) C.1 C.2.1 dX6_narrow_44 hl (by decide) rfl (fun ls hl => ?_)
        refine lv_iload (pc := 46) C.1 C.2.1 dX6_narrow_46 (lv_at hl 0 rfl) ?_
        refine lv_if_ne (tgt := 53) (pc := 48) C.1 C.2.1 dX6_narrow_48 (by decide) (fun c8 => ?_) (fun c8 => ?_)
        · have hw := hw.1 c8
          refine lv_aload_n (pc := 53) C.1 C.2.1 dX6_narrow_53 rfl (lv_at hl 1 rfl) ?_
          refine GX_X6_34_22 (pc := 54) C h dX6_narrow_54 ?_
          refine lv_iload_n (pc := 57) C.1 C.2.1 dX6_narrow_57 rfl (lv_at hl 2 rfl) ?_
          refine lv_iconst (v := 1) (pc := 58) C.1 C.2.1 dX6_narrow_58 (by decide) ?_
          refine lv_iadd (pc := 59) C.1 C.2.1 dX6_narrow_59 ?_
          refine lv_iconst (v := 5) (pc := 60) C.1 C.2.1 dX6_narrow_60 (by decide) ?_
          refine lv_imul (pc := 61) C.1 C.2.1 dX6_narrow_61 ?_
          refine lv_iload (pc := 62) C.1 C.2.1 dX6_narrow_62 (lv_at hl 5 rfl) ?_
          refine lv_iadd (pc := 64) C.1 C.2.1 dX6_narrow_64 ?_
          refine lv_iload (pc := 65) C.1 C.2.1 dX6_narrow_65 (lv_at hl 0 rfl) ?_
          refine stX_30 (pc := 67) C h hw.1 dX6_narrow_67 (fun z9 ez9 H locs h => ?_)
          have hw := hw.2 z9 ez9
          refine lv_lload_n (pc := 68) C.1 C.2.1 dX6_narrow_68 rfl (lv_at hl 4 rfl) ?_
          refine lv_aload_n (pc := 69) C.1 C.2.1 dX6_narrow_69 rfl (lv_at hl 1 rfl) ?_
          refine lv_iload (pc := 70) C.1 C.2.1 dX6_narrow_70 (lv_at hl 5 rfl) ?_
          refine lv_iload (pc := 72) C.1 C.2.1 dX6_narrow_72 (lv_at hl 0 rfl) ?_
          refine cl_vl (pc := 74) (As := [.int v2, .int x7]) (rest := [.long v1]) C h (m_X6_leastOf l D t a v2 x7 z9 _ hw) mw_X6_leastOf lm_X6_85 md_X6_leastOf rcX_22 ⟨by decide, by decide⟩ ⟨Nat.zero_le _, Nat.zero_le _⟩ hl.1 rfl (Nat.le_of_ble_eq_true rfl) dX6_narrow_74 (fun r11 z10 H locs hw h => ?_)
          rw [hw.1] at h
          have hw := hw.2
          refine lv_ladd (pc := 77) C.1 C.2.1 dX6_narrow_77 ?_
          refine lv_topl (fun x12 ex12 => ?_)
          have hw := hw x12 ex12
          refine lv_lstore_n (lv' := [(3, .long x12), (6, .int x7), (0, .ref (a 22)), (1, .int b1), (2, .int b2), (5, .int v2)]) (pc := 78) C.1 C.2.1 dX6_narrow_78 rfl hl (by decide) rfl (fun ls hl => ?_)
          obtain ⟨x13, ex13⟩ : ∃ y : Int32, y = v2 + (1) := ⟨_, rfl⟩
          have hw := hw x13 ex13
          refine lv_iinc (v := x13) (lv' := [(5, .int x13), (3, .long x12), (6, .int x7), (0, .ref (a 22)), (1, .int b1), (2, .int b2)]) (pc := 79) C.1 C.2.1 dX6_narrow_79 hl (k := 5) rfl (by rw [ex13]; rfl) (by decide) rfl (fun ls hl => ?_)
          refine lv_goto (tgt := 7) (pc := 82) C.1 C.2.1 dX6_narrow_82 (by decide) ?_
          exact hw _ _ _ h (lv_sub hl [3, 4, 5, 1, 0] rfl)
        · have hw := hw.2 c8
          refine lv_iconst (v := 0) (pc := 51) C.1 C.2.1 dX6_narrow_51 (by decide) ?_
          exact rt_z (pc := 52) C hr hlk h (Or.inl rfl) hw dX6_narrow_52)
  refine lv_topi (fun x14 ex14 => ?_)
  have hw := hw x14 ex14
  refine lv_istore (lv' := [(5, .int x14), (3, .long ((0 : Int64))), (0, .ref (a 22)), (1, .int b1), (2, .int b2)]) (pc := 5) C.1 C.2.1 dX6_narrow_5 hl (by decide) rfl (fun ls hl => ?_)
  exact hw _ _ _ h (lv_sub hl [2, 3, 4, 1, 0] rfl)

def wp_X6_step (Wk : Int32 → Int64 → St → (St → Prop) → Prop) (b1 : Int32) (b2 : Int32) (b3 : Int64) (z : St) (P : St → Prop) : Prop :=
  (vp_in b1 5 ∧ (vp_in (gF z 23 b1.toNatClampNeg) 16 ∧ (∀ x1 : Int32, x1 = (gF z 15 (gF z 23 b1.toNatClampNeg).toNatClampNeg) + b2 → (vp_in b1 5 ∧ (wp_X1_isBorne (gF z 23 b1.toNatClampNeg) x1 z (fun r3 => (((¬ r3 = 0) → (vp_in b1 5 ∧ (∀ z5 : St, z5 = wR z 32 (upd (gF z 32) b1.toNatClampNeg b2) → (vp_in b1 5 ∧ (wp_X1_draw (gF z5 23 b1.toNatClampNeg) x1 ((1 : Int32)) z5 (fun z6 => (Wk (b1 + ((1 : Int32))) b3 z6 (fun z8 => (vp_in b1 5 ∧ (wp_X1_draw (gF z8 23 b1.toNatClampNeg) x1 ((-1 : Int32)) z8 (fun z10 => P z10))))))))))) ∧ (r3 = 0 → P z))))))))
set_option maxHeartbeats 4000000 in
set_option maxRecDepth 100000 in
theorem m_X6_step (l : Launch) (D : va_G) (t : Ty3) (a : Nat → Nat) (dW : Nat) (Wk : Int32 → Int64 → St → (St → Prop) → Prop) (hWk : ∀ (b1 : Int32) (b2 : Int64) (z : St) (P : St → Prop), Wk b1 b2 z P → CtV l D t yX6_walk cX6_walk 11 none dW (wX t a) (wX t a z) [.ref (a 22), .int b1, .long b2] P) (b1 : Int32) (b2 : Int32) (b3 : Int64) (z : St) (P : St → Prop) (hw : wp_X6_step Wk b1 b2 b3 z P) : CtV l D t yX6_step cX6_step 6 none (dW + 4) (wX t a) (wX t a z) [.ref (a 22), .int b1, .int b2, .long b3] P := by
  refine ctV_of (by decide) (Nat.le_of_ble_eq_true rfl) ?_
  intro p e s m args below meth c A ls C hr hlk h hl
  have hl : lv_has ls 6 [(0, .ref (a 22)), (1, .int b1), (2, .int b2), (3, .long b3)] := hl
  unfold wp_X6_step at hw
  refine lv_aload_n (pc := 0) C.1 C.2.1 dX6_step_0 rfl (lv_at hl 0 rfl) ?_
  refine GX_X6_50_22 (pc := 1) C h dX6_step_1 ?_
  refine GX_X6_99_13 (pc := 4) C h dX6_step_4 ?_
  refine lv_aload_n (pc := 7) C.1 C.2.1 dX6_step_7 rfl (lv_at hl 0 rfl) ?_
  refine GX_X6_9_22 (pc := 8) C h dX6_step_8 ?_
  refine lv_iload_n (pc := 11) C.1 C.2.1 dX6_step_11 rfl (lv_at hl 1 rfl) ?_
  refine ldX_23 (pc := 12) C h hw.1 dX6_step_12 ?_
  have hw := hw.2
  refine ldX_15 (pc := 13) C h hw.1 dX6_step_13 ?_
  have hw := hw.2
  refine lv_iload_n (pc := 14) C.1 C.2.1 dX6_step_14 rfl (lv_at hl 2 rfl) ?_
  refine lv_iadd (pc := 15) C.1 C.2.1 dX6_step_15 ?_
  refine lv_topi (fun x1 ex1 => ?_)
  have hw := hw x1 ex1
  refine lv_istore (lv' := [(5, .int x1), (0, .ref (a 22)), (1, .int b1), (2, .int b2), (3, .long b3)]) (pc := 16) C.1 C.2.1 dX6_step_16 hl (by decide) rfl (fun ls hl => ?_)
  refine lv_aload_n (pc := 18) C.1 C.2.1 dX6_step_18 rfl (lv_at hl 1 rfl) ?_
  refine GX_X6_50_22 (pc := 19) C h dX6_step_19 ?_
  refine lv_aload_n (pc := 22) C.1 C.2.1 dX6_step_22 rfl (lv_at hl 1 rfl) ?_
  refine GX_X6_9_22 (pc := 23) C h dX6_step_23 ?_
  refine lv_iload_n (pc := 26) C.1 C.2.1 dX6_step_26 rfl (lv_at hl 2 rfl) ?_
  refine ldX_23 (pc := 27) C h hw.1 dX6_step_27 ?_
  have hw := hw.2
  refine lv_iload (pc := 28) C.1 C.2.1 dX6_step_28 (lv_at hl 0 rfl) ?_
  refine cl_vi (pc := 30) (As := [.int (gF z 23 b1.toNatClampNeg), .int x1]) (rest := []) C h (m_X1_isBorne l D t a (gF z 23 b1.toNatClampNeg) x1 z _ hw) mw_X1_isBorne lm_X6_155 md_X1_isBorne rcX_13 (hRr (by omega) (by decide)) ⟨Nat.zero_le _, Nat.zero_le _⟩ hl.1 rfl (Nat.le_of_ble_eq_true rfl) dX6_step_30 (fun r3 z2 H locs hw h => ?_)
  rw [hw.1] at h
  have hw := hw.2
  refine lv_if_ne (tgt := 37) (pc := 33) C.1 C.2.1 dX6_step_33 (by decide) (fun c4 => ?_) (fun c4 => ?_)
  · have hw := hw.1 c4
    refine lv_aload_n (pc := 37) C.1 C.2.1 dX6_step_37 rfl (lv_at hl 1 rfl) ?_
    refine GX_X6_40_22 (pc := 38) C h dX6_step_38 ?_
    refine lv_iload_n (pc := 41) C.1 C.2.1 dX6_step_41 rfl (lv_at hl 2 rfl) ?_
    refine lv_iload_n (pc := 42) C.1 C.2.1 dX6_step_42 rfl (lv_at hl 3 rfl) ?_
    refine stX_32 (pc := 43) C h hw.1 dX6_step_43 (fun z5 ez5 H locs h => ?_)
    have hw := hw.2 z5 ez5
    refine lv_aload_n (pc := 44) C.1 C.2.1 dX6_step_44 rfl (lv_at hl 1 rfl) ?_
    refine GX_X6_50_22 (pc := 45) C h dX6_step_45 ?_
    refine lv_aload_n (pc := 48) C.1 C.2.1 dX6_step_48 rfl (lv_at hl 1 rfl) ?_
    refine GX_X6_9_22 (pc := 49) C h dX6_step_49 ?_
    refine lv_iload_n (pc := 52) C.1 C.2.1 dX6_step_52 rfl (lv_at hl 2 rfl) ?_
    refine ldX_23 (pc := 53) C h hw.1 dX6_step_53 ?_
    have hw := hw.2
    refine lv_iload (pc := 54) C.1 C.2.1 dX6_step_54 (lv_at hl 0 rfl) ?_
    refine lv_iconst (v := 1) (pc := 56) C.1 C.2.1 dX6_step_56 (by decide) ?_
    refine cl_vv (pc := 57) (As := [.int (gF z5 23 b1.toNatClampNeg), .int x1, .int ((1 : Int32))]) (rest := []) C h (m_X1_draw l D t a (gF z5 23 b1.toNatClampNeg) x1 ((1 : Int32)) z5 _ hw) mw_X1_draw lm_X6_158 md_X1_draw rcX_13 (hRr (by omega) (by decide)) ⟨Nat.zero_le _, Nat.zero_le _⟩ hl.1 rfl (Nat.le_of_ble_eq_true rfl) dX6_step_57 (fun z6 H locs hw h => ?_)
    refine lv_aload_n (pc := 60) C.1 C.2.1 dX6_step_60 rfl (lv_at hl 1 rfl) ?_
    refine lv_iload_n (pc := 61) C.1 C.2.1 dX6_step_61 rfl (lv_at hl 2 rfl) ?_
    refine lv_iconst (v := 1) (pc := 62) C.1 C.2.1 dX6_step_62 (by decide) ?_
    refine lv_iadd (pc := 63) C.1 C.2.1 dX6_step_63 ?_
    refine lv_lload_n (pc := 64) C.1 C.2.1 dX6_step_64 rfl (lv_at hl 4 rfl) ?_
    refine cl_vv (pc := 65) (As := [.int (b1 + ((1 : Int32))), .long b3]) (rest := []) C h (hWk (b1 + ((1 : Int32))) b3 z6 _ hw) mw_X6_walk lm_X6_89 md_X6_walk rcX_22 (hRr (by omega) (by decide)) ⟨Nat.zero_le _, Nat.zero_le _⟩ hl.1 rfl (Nat.le_of_ble_eq_true rfl) dX6_step_65 (fun z8 H locs hw h => ?_)
    refine lv_aload_n (pc := 68) C.1 C.2.1 dX6_step_68 rfl (lv_at hl 1 rfl) ?_
    refine GX_X6_50_22 (pc := 69) C h dX6_step_69 ?_
    refine lv_aload_n (pc := 72) C.1 C.2.1 dX6_step_72 rfl (lv_at hl 1 rfl) ?_
    refine GX_X6_9_22 (pc := 73) C h dX6_step_73 ?_
    refine lv_iload_n (pc := 76) C.1 C.2.1 dX6_step_76 rfl (lv_at hl 2 rfl) ?_
    refine ldX_23 (pc := 77) C h hw.1 dX6_step_77 ?_
    have hw := hw.2
    refine lv_iload (pc := 78) C.1 C.2.1 dX6_step_78 (lv_at hl 0 rfl) ?_
    refine lv_iconst (v := -1) (pc := 80) C.1 C.2.1 dX6_step_80 (by decide) ?_
    refine cl_vv (pc := 81) (As := [.int (gF z8 23 b1.toNatClampNeg), .int x1, .int ((-1 : Int32))]) (rest := []) C h (m_X1_draw l D t a (gF z8 23 b1.toNatClampNeg) x1 ((-1 : Int32)) z8 _ hw) mw_X1_draw lm_X6_158 md_X1_draw rcX_13 (hRr (by omega) (by decide)) ⟨Nat.zero_le _, Nat.zero_le _⟩ hl.1 rfl (Nat.le_of_ble_eq_true rfl) dX6_step_81 (fun z10 H locs hw h => ?_)
    exact rt_v (pc := 84) C hr hlk h hw dX6_step_84
  · have hw := hw.2 c4
    exact rt_v (pc := 36) C hr hlk h hw dX6_step_36

def wp_X6_walk : Nat → Int32 → Int64 → St → (St → Prop) → Prop
  | 0, _, _, _, _ => False
  | n + 1, b1, b2, z, P => (∀ K1 : Prop, ((wp_X6_keepWay b2 z (fun z2 => P z2)) → K1) → ((((gI z 2213) ≤ b1) → K1) ∧ (¬ ((gI z 2213) ≤ b1) → (((b1 < ((5 : Int32))) → (vp_in ((b1 * ((5 : Int32))) + b1) 30 ∧ (∀ x6 : Int32, x6 = gF z 30 ((b1 * ((5 : Int32))) + b1).toNatClampNeg → (vp_in b1 6 ∧ (wp_X6_leastOf b1 x6 z (fun r8 => (∀ x9 : Int64, x9 = (gG z 31 b1.toNatClampNeg) - r8 → (∀ K11 : Int32 → St → Prop, (∀ (v10 : Int32) (z12 : St), (vp_in b1 5 ∧ ((((gF z12 25 b1.toNatClampNeg) ≤ v10) → P z12) ∧ (¬ ((gF z12 25 b1.toNatClampNeg) ≤ v10) → (∀ K15 : Int32 → Prop, (∀ (s14 : Int32), (vp_in ((b1 * ((24 : Int32))) + s14) 120 ∧ (∀ x16 : Int64, x16 = b2 + (gG z12 28 ((b1 * ((24 : Int32))) + s14).toNatClampNeg) → (∀ K17 : St → Prop, (∀ (z18 : St), (∀ x19 : Int32, x19 = v10 + (1) → K11 x19 z18) → K17 z18) → (((((x6 >>> (s14 &&& 31)) &&& ((1 : Int32))) = 0) → K17 z12) ∧ (¬ (((x6 >>> (s14 &&& 31)) &&& ((1 : Int32))) = 0) → (((0 ≤ (lg_cmp (x16 + x9) (gJ z12 2215))) → K17 z12) ∧ (¬ (0 ≤ (lg_cmp (x16 + x9) (gJ z12 2215))) → (wp_X6_narrow b1 s14 z12 (fun r23 z22 => (((¬ r23 = 0) → (vp_in (b1 + ((1 : Int32))) 6 ∧ (((0 ≤ (lg_cmp (x16 + (gG z22 31 (b1 + ((1 : Int32))).toNatClampNeg)) (gJ z22 2215))) → K17 z22) ∧ (¬ (0 ≤ (lg_cmp (x16 + (gG z22 31 (b1 + ((1 : Int32))).toNatClampNeg)) (gJ z22 2215))) → (wp_X6_step (wp_X6_walk n) b1 s14 x16 z22 (fun z26 => K17 z26)))))) ∧ (r23 = 0 → K17 z22))))))))))) → K15 s14) → ((((gI z12 2216) = 0) → (vp_in ((b1 * ((24 : Int32))) + v10) 120 ∧ K15 (gF z12 27 ((b1 * ((24 : Int32))) + v10).toNatClampNeg))) ∧ (¬ ((gI z12 2216) = 0) → (vp_in ((b1 * ((24 : Int32))) + v10) 120 ∧ K15 (gF z12 26 ((b1 * ((24 : Int32))) + v10).toNatClampNeg)))))))) → K11 v10 z12) → K11 ((0 : Int32)) z)))))))) ∧ (¬ (b1 < ((5 : Int32))) → K1)))))
set_option maxHeartbeats 4000000 in
set_option maxRecDepth 100000 in
theorem m_X6_walk (l : Launch) (D : va_G) (t : Ty3) (a : Nat → Nat) : ∀ (n : Nat) (b1 : Int32) (b2 : Int64) (z : St) (P : St → Prop) (hw : wp_X6_walk n b1 b2 z P), CtV l D t yX6_walk cX6_walk 11 none (8 * n + 4) (wX t a) (wX t a z) [.ref (a 22), .int b1, .long b2] P := by
  intro n
  induction n with
  | zero => intro b1 b2 z P hw; exact absurd hw (fun h => h)
  | succ n ih =>
  intro b1 b2 z P hw
  refine ctV_of (by decide) (Nat.le_of_ble_eq_true rfl) ?_
  intro p e s m args below meth c A ls C hr hlk h hl
  have hl : lv_has ls 11 [(0, .ref (a 22)), (1, .int b1), (2, .long b2)] := hl
  unfold wp_X6_walk at hw
  refine lv_iload_n (pc := 0) C.1 C.2.1 dX6_walk_0 rfl (lv_at hl 1 rfl) ?_
  refine lv_aload_n (pc := 1) C.1 C.2.1 dX6_walk_1 rfl (lv_at hl 0 rfl) ?_
  refine GX_X6_54_22 (pc := 2) C h dX6_walk_2 ?_
  have hw := hw (∀ (H : Heap) (locs : List Loc) (ls : Array Slot), wd D t A s (wX t a z) H locs → lv_has ls 11 [(0, .ref (a 22)), (2, .long b2)] → W p l e (rmd (8 * (n + 1) + 4)) s m args below meth c H locs 0 0 (QV D t A (wX t a) P below args s) (F0 m 13 ls [])) (by
      intro hw H locs ls h hl
      refine lv_aload_n (pc := 13) C.1 C.2.1 dX6_walk_13 rfl (lv_at hl 0 rfl) ?_
      refine lv_lload_n (pc := 14) C.1 C.2.1 dX6_walk_14 rfl (lv_at hl 1 rfl) ?_
      refine cl_vv (pc := 15) (As := [.long b2]) (rest := []) C h (m_X6_keepWay l D t a b2 z _ hw) mw_X6_keepWay lm_X6_144 md_X6_keepWay rcX_22 (hRr (by omega) (by decide)) ⟨Nat.zero_le _, Nat.zero_le _⟩ hl.1 rfl (Nat.le_of_ble_eq_true rfl) dX6_walk_15 (fun z2 H locs hw h => ?_)
      exact rt_v (pc := 18) C hr hlk h hw dX6_walk_18)
  refine lv_icmp_ge (tgt := 13) (pc := 5) C.1 C.2.1 dX6_walk_5 (by decide) (fun c4 => ?_) (fun c4 => ?_)
  · have hw := hw.1 c4
    exact hw _ _ _ h (lv_sub hl [0, 2] rfl)
  · have hw := hw.2 c4
    refine lv_iload_n (pc := 8) C.1 C.2.1 dX6_walk_8 rfl (lv_at hl 1 rfl) ?_
    refine lv_iconst (v := 5) (pc := 9) C.1 C.2.1 dX6_walk_9 (by decide) ?_
    refine lv_icmp_lt (tgt := 19) (pc := 10) C.1 C.2.1 dX6_walk_10 (by decide) (fun c5 => ?_) (fun c5 => ?_)
    · have hw := hw.1 c5
      refine lv_aload_n (pc := 19) C.1 C.2.1 dX6_walk_19 rfl (lv_at hl 0 rfl) ?_
      refine GX_X6_34_22 (pc := 20) C h dX6_walk_20 ?_
      refine lv_iload_n (pc := 23) C.1 C.2.1 dX6_walk_23 rfl (lv_at hl 1 rfl) ?_
      refine lv_iconst (v := 5) (pc := 24) C.1 C.2.1 dX6_walk_24 (by decide) ?_
      refine lv_imul (pc := 25) C.1 C.2.1 dX6_walk_25 ?_
      refine lv_iload_n (pc := 26) C.1 C.2.1 dX6_walk_26 rfl (lv_at hl 1 rfl) ?_
      refine lv_iadd (pc := 27) C.1 C.2.1 dX6_walk_27 ?_
      refine ldX_30 (pc := 28) C h hw.1 dX6_walk_28 ?_
      have hw := hw.2
      refine lv_topi (fun x6 ex6 => ?_)
      have hw := hw x6 ex6
      refine lv_istore (lv' := [(4, .int x6), (0, .ref (a 22)), (1, .int b1), (2, .long b2)]) (pc := 29) C.1 C.2.1 dX6_walk_29 hl (by decide) rfl (fun ls hl => ?_)
      refine lv_aload_n (pc := 31) C.1 C.2.1 dX6_walk_31 rfl (lv_at hl 1 rfl) ?_
      refine GX_X6_37_22 (pc := 32) C h dX6_walk_32 ?_
      refine lv_iload_n (pc := 35) C.1 C.2.1 dX6_walk_35 rfl (lv_at hl 2 rfl) ?_
      refine ldX_31 (pc := 36) C h hw.1 dX6_walk_36 ?_
      have hw := hw.2
      refine lv_aload_n (pc := 37) C.1 C.2.1 dX6_walk_37 rfl (lv_at hl 1 rfl) ?_
      refine lv_iload_n (pc := 38) C.1 C.2.1 dX6_walk_38 rfl (lv_at hl 2 rfl) ?_
      refine lv_iload (pc := 39) C.1 C.2.1 dX6_walk_39 (lv_at hl 0 rfl) ?_
      refine cl_vl (pc := 41) (As := [.int b1, .int x6]) (rest := [.long (gG z 31 b1.toNatClampNeg)]) C h (m_X6_leastOf l D t a b1 x6 z _ hw) mw_X6_leastOf lm_X6_85 md_X6_leastOf rcX_22 (hRr (by omega) (by decide)) ⟨Nat.zero_le _, Nat.zero_le _⟩ hl.1 rfl (Nat.le_of_ble_eq_true rfl) dX6_walk_41 (fun r8 z7 H locs hw h => ?_)
      rw [hw.1] at h
      have hw := hw.2
      refine lv_lsub (pc := 44) C.1 C.2.1 dX6_walk_44 ?_
      refine lv_topl (fun x9 ex9 => ?_)
      have hw := hw x9 ex9
      refine lv_lstore (lv' := [(5, .long x9), (4, .int x6), (0, .ref (a 22)), (1, .int b1), (2, .long b2)]) (pc := 45) C.1 C.2.1 dX6_walk_45 hl (by decide) rfl (fun ls hl => ?_)
      refine lv_iconst (v := 0) (pc := 47) C.1 C.2.1 dX6_walk_47 (by decide) ?_
      have hw := hw (fun (v10 : Int32) (z12 : St) => ∀ (H : Heap) (locs : List Loc) (ls : Array Slot), wd D t A s (wX t a z12) H locs → lv_has ls 11 [(0, .ref (a 22)), (1, .int b1), (2, .long b2), (4, .int x6), (5, .long x9), (7, .int v10)] → W p l e (rmd (8 * (n + 1) + 4)) s m args below meth c H locs 0 0 (QV D t A (wX t a) P below args s) (F0 m 50 ls [])) (by
          intro v10 z12 hw H locs ls h hl
          refine lv_iload (pc := 50) C.1 C.2.1 dX6_walk_50 (lv_at hl 5 rfl) ?_
          refine lv_aload_n (pc := 52) C.1 C.2.1 dX6_walk_52 rfl (lv_at hl 0 rfl) ?_
          refine GX_X6_18_22 (pc := 53) C h dX6_walk_53 ?_
          refine lv_iload_n (pc := 56) C.1 C.2.1 dX6_walk_56 rfl (lv_at hl 1 rfl) ?_
          refine ldX_25 (pc := 57) C h hw.1 dX6_walk_57 ?_
          have hw := hw.2
          refine lv_icmp_ge (tgt := 183) (pc := 58) C.1 C.2.1 dX6_walk_58 (by decide) (fun c13 => ?_) (fun c13 => ?_)
          · have hw := hw.1 c13
            exact rt_v (pc := 183) C hr hlk h hw dX6_walk_183
          · have hw := hw.2 c13
            refine lv_aload_n (pc := 61) C.1 C.2.1 dX6_walk_61 rfl (lv_at hl 0 rfl) ?_
            refine GX_X6_67_22 (pc := 62) C h dX6_walk_62 ?_
            have hw := hw (fun (s14 : Int32) => ∀ (H : Heap) (locs : List Loc) (ls : Array Slot), wd D t A s (wX t a z12) H locs → lv_has ls 11 [(0, .ref (a 22)), (1, .int b1), (2, .long b2), (4, .int x6), (5, .long x9), (7, .int v10)] → W p l e (rmd (8 * (n + 1) + 4)) s m args below meth c H locs 0 0 (QV D t A (wX t a) P below args s) (F0 m 95 ls [.int s14])) (by
                intro s14 hw H locs ls h hl
                refine lv_istore (lv' := [(8, .int s14), (0, .ref (a 22)), (1, .int b1), (2, .long b2), (4, .int x6), (5, .long x9), (7, .int v10)]) (pc := 95) C.1 C.2.1 dX6_walk_95 hl (by decide) rfl (fun ls hl => ?_)
                refine lv_lload_n (pc := 97) C.1 C.2.1 dX6_walk_97 rfl (lv_at hl 3 rfl) ?_
                refine lv_aload_n (pc := 98) C.1 C.2.1 dX6_walk_98 rfl (lv_at hl 1 rfl) ?_
                refine GX_X6_27_22 (pc := 99) C h dX6_walk_99 ?_
                refine lv_iload_n (pc := 102) C.1 C.2.1 dX6_walk_102 rfl (lv_at hl 2 rfl) ?_
                refine lv_bipush (v := 24) (pc := 103) C.1 C.2.1 dX6_walk_103 (by decide) ?_
                refine lv_imul (pc := 105) C.1 C.2.1 dX6_walk_105 ?_
                refine lv_iload (pc := 106) C.1 C.2.1 dX6_walk_106 (lv_at hl 0 rfl) ?_
                refine lv_iadd (pc := 108) C.1 C.2.1 dX6_walk_108 ?_
                refine ldX_28 (pc := 109) C h hw.1 dX6_walk_109 ?_
                have hw := hw.2
                refine lv_ladd (pc := 110) C.1 C.2.1 dX6_walk_110 ?_
                refine lv_topl (fun x16 ex16 => ?_)
                have hw := hw x16 ex16
                refine lv_lstore (lv' := [(9, .long x16), (8, .int s14), (0, .ref (a 22)), (1, .int b1), (2, .long b2), (4, .int x6), (5, .long x9), (7, .int v10)]) (pc := 111) C.1 C.2.1 dX6_walk_111 hl (by decide) rfl (fun ls hl => ?_)
                refine lv_iload (pc := 113) C.1 C.2.1 dX6_walk_113 (lv_at hl 5 rfl) ?_
                refine lv_iload (pc := 115) C.1 C.2.1 dX6_walk_115 (lv_at hl 1 rfl) ?_
                refine lv_ishr (pc := 117) C.1 C.2.1 dX6_walk_117 ?_
                refine lv_iconst (v := 1) (pc := 118) C.1 C.2.1 dX6_walk_118 (by decide) ?_
                refine lv_iand (pc := 119) C.1 C.2.1 dX6_walk_119 ?_
                have hw := hw (fun (z18 : St) => ∀ (H : Heap) (locs : List Loc) (ls : Array Slot), wd D t A s (wX t a z18) H locs → lv_has ls 11 [(0, .ref (a 22)), (1, .int b1), (2, .long b2), (4, .int x6), (5, .long x9), (7, .int v10)] → W p l e (rmd (8 * (n + 1) + 4)) s m args below meth c H locs 0 0 (QV D t A (wX t a) P below args s) (F0 m 177 ls [])) (by
                    intro z18 hw H locs ls h hl
                    obtain ⟨x19, ex19⟩ : ∃ y : Int32, y = v10 + (1) := ⟨_, rfl⟩
                    have hw := hw x19 ex19
                    refine lv_iinc (v := x19) (lv' := [(7, .int x19), (0, .ref (a 22)), (1, .int b1), (2, .long b2), (4, .int x6), (5, .long x9)]) (pc := 177) C.1 C.2.1 dX6_walk_177 hl (k := 5) rfl (by rw [ex19]; rfl) (by decide) rfl (fun ls hl => ?_)
                    refine lv_goto (tgt := 50) (pc := 180) C.1 C.2.1 dX6_walk_180 (by decide) ?_
                    exact hw _ _ _ h (lv_sub hl [1, 2, 3, 4, 5, 0] rfl))
                refine lv_if_eq (tgt := 177) (pc := 120) C.1 C.2.1 dX6_walk_120 (by decide) (fun c20 => ?_) (fun c20 => ?_)
                · have hw := hw.1 c20
                  exact hw _ _ _ h (lv_sub hl [2, 3, 4, 5, 6, 7] rfl)
                · have hw := hw.2 c20
                  refine lv_lload (pc := 123) C.1 C.2.1 dX6_walk_123 (lv_at hl 0 rfl) ?_
                  refine lv_lload (pc := 125) C.1 C.2.1 dX6_walk_125 (lv_at hl 6 rfl) ?_
                  refine lv_ladd (pc := 127) C.1 C.2.1 dX6_walk_127 ?_
                  refine lv_aload_n (pc := 128) C.1 C.2.1 dX6_walk_128 rfl (lv_at hl 2 rfl) ?_
                  refine GX_X6_64_22 (pc := 129) C h dX6_walk_129 ?_
                  refine W.lcmp (pc := 132) C.1 C.2.1 dX6_walk_132 ?_
                  refine lv_if_ge (tgt := 177) (pc := 133) C.1 C.2.1 dX6_walk_133 (by decide) (fun c21 => ?_) (fun c21 => ?_)
                  · have hw := hw.1 c21
                    exact hw _ _ _ h (lv_sub hl [2, 3, 4, 5, 6, 7] rfl)
                  · have hw := hw.2 c21
                    refine lv_aload_n (pc := 136) C.1 C.2.1 dX6_walk_136 rfl (lv_at hl 2 rfl) ?_
                    refine lv_iload_n (pc := 137) C.1 C.2.1 dX6_walk_137 rfl (lv_at hl 3 rfl) ?_
                    refine lv_iload (pc := 138) C.1 C.2.1 dX6_walk_138 (lv_at hl 1 rfl) ?_
                    refine cl_vi (pc := 140) (As := [.int b1, .int s14]) (rest := []) C h (m_X6_narrow l D t a b1 s14 z12 _ hw) mw_X6_narrow lm_X6_148 md_X6_narrow rcX_22 (hRr (by omega) (by decide)) ⟨Nat.zero_le _, Nat.zero_le _⟩ hl.1 rfl (Nat.le_of_ble_eq_true rfl) dX6_walk_140 (fun r23 z22 H locs hw h => ?_)
                    refine lv_if_ne (tgt := 149) (pc := 143) C.1 C.2.1 dX6_walk_143 (by decide) (fun c24 => ?_) (fun c24 => ?_)
                    · have hw := hw.1 c24
                      refine lv_lload (pc := 149) C.1 C.2.1 dX6_walk_149 (lv_at hl 0 rfl) ?_
                      refine lv_aload_n (pc := 151) C.1 C.2.1 dX6_walk_151 rfl (lv_at hl 2 rfl) ?_
                      refine GX_X6_37_22 (pc := 152) C h dX6_walk_152 ?_
                      refine lv_iload_n (pc := 155) C.1 C.2.1 dX6_walk_155 rfl (lv_at hl 3 rfl) ?_
                      refine lv_iconst (v := 1) (pc := 156) C.1 C.2.1 dX6_walk_156 (by decide) ?_
                      refine lv_iadd (pc := 157) C.1 C.2.1 dX6_walk_157 ?_
                      refine ldX_31 (pc := 158) C h hw.1 dX6_walk_158 ?_
                      have hw := hw.2
                      refine lv_ladd (pc := 159) C.1 C.2.1 dX6_walk_159 ?_
                      refine lv_aload_n (pc := 160) C.1 C.2.1 dX6_walk_160 rfl (lv_at hl 2 rfl) ?_
                      refine GX_X6_64_22 (pc := 161) C h dX6_walk_161 ?_
                      refine W.lcmp (pc := 164) C.1 C.2.1 dX6_walk_164 ?_
                      refine lv_if_ge (tgt := 177) (pc := 165) C.1 C.2.1 dX6_walk_165 (by decide) (fun c25 => ?_) (fun c25 => ?_)
                      · have hw := hw.1 c25
                        exact hw _ _ _ h (lv_sub hl [2, 3, 4, 5, 6, 7] rfl)
                      · have hw := hw.2 c25
                        refine lv_aload_n (pc := 168) C.1 C.2.1 dX6_walk_168 rfl (lv_at hl 2 rfl) ?_
                        refine lv_iload_n (pc := 169) C.1 C.2.1 dX6_walk_169 rfl (lv_at hl 3 rfl) ?_
                        refine lv_iload (pc := 170) C.1 C.2.1 dX6_walk_170 (lv_at hl 1 rfl) ?_
                        refine lv_lload (pc := 172) C.1 C.2.1 dX6_walk_172 (lv_at hl 0 rfl) ?_
                        refine cl_vv (pc := 174) (As := [.int b1, .int s14, .long x16]) (rest := []) C h (m_X6_step l D t a (8 * n + 4) (wp_X6_walk n) ih b1 s14 x16 z22 _ hw) mw_X6_step lm_X6_151 md_X6_step rcX_22 (hRr (by omega) (by decide)) ⟨Nat.zero_le _, Nat.zero_le _⟩ hl.1 rfl (Nat.le_of_ble_eq_true rfl) dX6_walk_174 (fun z26 H locs hw h => ?_)
                        exact hw _ _ _ h (lv_sub hl [2, 3, 4, 5, 6, 7] rfl)
                    · have hw := hw.2 c24
                      refine lv_goto (tgt := 177) (pc := 146) C.1 C.2.1 dX6_walk_146 (by decide) ?_
                      exact hw _ _ _ h (lv_sub hl [2, 3, 4, 5, 6, 7] rfl))
            refine lv_if_eq (tgt := 83) (pc := 65) C.1 C.2.1 dX6_walk_65 (by decide) (fun c28 => ?_) (fun c28 => ?_)
            · have hw := hw.1 c28
              refine lv_aload_n (pc := 83) C.1 C.2.1 dX6_walk_83 rfl (lv_at hl 0 rfl) ?_
              refine GX_X6_24_22 (pc := 84) C h dX6_walk_84 ?_
              refine lv_iload_n (pc := 87) C.1 C.2.1 dX6_walk_87 rfl (lv_at hl 1 rfl) ?_
              refine lv_bipush (v := 24) (pc := 88) C.1 C.2.1 dX6_walk_88 (by decide) ?_
              refine lv_imul (pc := 90) C.1 C.2.1 dX6_walk_90 ?_
              refine lv_iload (pc := 91) C.1 C.2.1 dX6_walk_91 (lv_at hl 5 rfl) ?_
              refine lv_iadd (pc := 93) C.1 C.2.1 dX6_walk_93 ?_
              refine ldX_27 (pc := 94) C h hw.1 dX6_walk_94 ?_
              have hw := hw.2
              exact hw _ _ _ h (lv_sub hl [0, 1, 2, 3, 4, 5] rfl)
            · have hw := hw.2 c28
              refine lv_aload_n (pc := 68) C.1 C.2.1 dX6_walk_68 rfl (lv_at hl 0 rfl) ?_
              refine GX_X6_21_22 (pc := 69) C h dX6_walk_69 ?_
              refine lv_iload_n (pc := 72) C.1 C.2.1 dX6_walk_72 rfl (lv_at hl 1 rfl) ?_
              refine lv_bipush (v := 24) (pc := 73) C.1 C.2.1 dX6_walk_73 (by decide) ?_
              refine lv_imul (pc := 75) C.1 C.2.1 dX6_walk_75 ?_
              refine lv_iload (pc := 76) C.1 C.2.1 dX6_walk_76 (lv_at hl 5 rfl) ?_
              refine lv_iadd (pc := 78) C.1 C.2.1 dX6_walk_78 ?_
              refine ldX_26 (pc := 79) C h hw.1 dX6_walk_79 ?_
              have hw := hw.2
              refine lv_goto (tgt := 95) (pc := 80) C.1 C.2.1 dX6_walk_80 (by decide) ?_
              exact hw _ _ _ h (lv_sub hl [0, 1, 2, 3, 4, 5] rfl))
      refine lv_istore (lv' := [(7, .int ((0 : Int32))), (5, .long x9), (4, .int x6), (0, .ref (a 22)), (1, .int b1), (2, .long b2)]) (pc := 48) C.1 C.2.1 dX6_walk_48 hl (by decide) rfl (fun ls hl => ?_)
      exact hw _ _ _ h (lv_sub hl [3, 4, 5, 2, 1, 0] rfl)
    · have hw := hw.2 c5
      exact hw _ _ _ h (lv_sub hl [0, 2] rfl)

def wp_X6_walkTwice  (z : St) (P : Int32 → St → Prop) : Prop :=
  (∀ z1 : St, z1 = wJ z 2214 ((1000000000000000000 : Int64)) → (∀ z2 : St, z2 = wJ z1 2215 ((1000000000000000000 : Int64)) → (∀ z3 : St, z3 = wI z2 2216 ((0 : Int32)) → (wp_X6_walk 7 ((0 : Int32)) ((0 : Int64)) z3 (fun z4 => (((¬ (lg_cmp (gJ z4 2214) ((1000000000000000000 : Int64))) = 0) → (∀ z7 : St, z7 = wJ z4 2215 ((gJ z4 2214) + ((1 : Int64))) → (∀ z8 : St, z8 = wI z7 2216 ((1 : Int32)) → (wp_X6_walk 7 ((0 : Int32)) ((0 : Int64)) z8 (fun z9 => P ((1 : Int32)) z9))))) ∧ ((lg_cmp (gJ z4 2214) ((1000000000000000000 : Int64))) = 0 → P ((0 : Int32)) z4)))))))
set_option maxHeartbeats 4000000 in
set_option maxRecDepth 100000 in
theorem m_X6_walkTwice (l : Launch) (D : va_G) (t : Ty3) (a : Nat → Nat)  (z : St) (P : Int32 → St → Prop) (hw : wp_X6_walkTwice z P) : CtI l D t yX6_walkTwice cX6_walkTwice 1 (some .boolean) 61 (wX t a) (wX t a z) [.ref (a 22)] P := by
  refine ctI_of (by decide) (Nat.le_of_ble_eq_true rfl) ?_
  intro p e s m args below meth c A ls C hr hlk h hl
  have hl : lv_has ls 1 [(0, .ref (a 22))] := hl
  unfold wp_X6_walkTwice at hw
  refine lv_aload_n (pc := 0) C.1 C.2.1 dX6_walkTwice_0 rfl (lv_at hl 0 rfl) ?_
  refine lv_ldc2 (pc := 1) C.1 C.2.1 C.2.2.2.1 (C.2.2.2.2 _ lc_X6_62) dX6_walkTwice_1 ?_
  refine PX_X6_58_22 (pc := 4) C h dX6_walkTwice_4 (fun z1 ez1 H locs h => ?_)
  have hw := hw z1 ez1
  refine lv_aload_n (pc := 7) C.1 C.2.1 dX6_walkTwice_7 rfl (lv_at hl 0 rfl) ?_
  refine lv_ldc2 (pc := 8) C.1 C.2.1 C.2.2.2.1 (C.2.2.2.2 _ lc_X6_62) dX6_walkTwice_8 ?_
  refine PX_X6_64_22 (pc := 11) C h dX6_walkTwice_11 (fun z2 ez2 H locs h => ?_)
  have hw := hw z2 ez2
  refine lv_aload_n (pc := 14) C.1 C.2.1 dX6_walkTwice_14 rfl (lv_at hl 0 rfl) ?_
  refine lv_iconst (v := 0) (pc := 15) C.1 C.2.1 dX6_walkTwice_15 (by decide) ?_
  refine PX_X6_67_22 (pc := 16) C h (Or.inl rfl) dX6_walkTwice_16 (fun z3 ez3 H locs h => ?_)
  have hw := hw z3 ez3
  refine lv_aload_n (pc := 19) C.1 C.2.1 dX6_walkTwice_19 rfl (lv_at hl 0 rfl) ?_
  refine lv_iconst (v := 0) (pc := 20) C.1 C.2.1 dX6_walkTwice_20 (by decide) ?_
  refine lv_lconst (v := 0) (pc := 21) C.1 C.2.1 dX6_walkTwice_21 (by decide) ?_
  refine cl_vv (pc := 22) (As := [.int ((0 : Int32)), .long ((0 : Int64))]) (rest := []) C h (m_X6_walk l D t a 7 ((0 : Int32)) ((0 : Int64)) z3 _ hw) mw_X6_walk lm_X6_89 md_X6_walk rcX_22 ⟨by decide, by decide⟩ ⟨Nat.zero_le _, Nat.zero_le _⟩ hl.1 rfl (Nat.le_of_ble_eq_true rfl) dX6_walkTwice_22 (fun z4 H locs hw h => ?_)
  refine lv_aload_n (pc := 25) C.1 C.2.1 dX6_walkTwice_25 rfl (lv_at hl 0 rfl) ?_
  refine GX_X6_58_22 (pc := 26) C h dX6_walkTwice_26 ?_
  refine lv_ldc2 (pc := 29) C.1 C.2.1 C.2.2.2.1 (C.2.2.2.2 _ lc_X6_62) dX6_walkTwice_29 ?_
  refine W.lcmp (pc := 32) C.1 C.2.1 dX6_walkTwice_32 ?_
  refine lv_if_ne (tgt := 38) (pc := 33) C.1 C.2.1 dX6_walkTwice_33 (by decide) (fun c6 => ?_) (fun c6 => ?_)
  · have hw := hw.1 c6
    refine lv_aload_n (pc := 38) C.1 C.2.1 dX6_walkTwice_38 rfl (lv_at hl 0 rfl) ?_
    refine lv_aload_n (pc := 39) C.1 C.2.1 dX6_walkTwice_39 rfl (lv_at hl 0 rfl) ?_
    refine GX_X6_58_22 (pc := 40) C h dX6_walkTwice_40 ?_
    refine lv_lconst (v := 1) (pc := 43) C.1 C.2.1 dX6_walkTwice_43 (by decide) ?_
    refine lv_ladd (pc := 44) C.1 C.2.1 dX6_walkTwice_44 ?_
    refine PX_X6_64_22 (pc := 45) C h dX6_walkTwice_45 (fun z7 ez7 H locs h => ?_)
    have hw := hw z7 ez7
    refine lv_aload_n (pc := 48) C.1 C.2.1 dX6_walkTwice_48 rfl (lv_at hl 0 rfl) ?_
    refine lv_iconst (v := 1) (pc := 49) C.1 C.2.1 dX6_walkTwice_49 (by decide) ?_
    refine PX_X6_67_22 (pc := 50) C h (Or.inr rfl) dX6_walkTwice_50 (fun z8 ez8 H locs h => ?_)
    have hw := hw z8 ez8
    refine lv_aload_n (pc := 53) C.1 C.2.1 dX6_walkTwice_53 rfl (lv_at hl 0 rfl) ?_
    refine lv_iconst (v := 0) (pc := 54) C.1 C.2.1 dX6_walkTwice_54 (by decide) ?_
    refine lv_lconst (v := 0) (pc := 55) C.1 C.2.1 dX6_walkTwice_55 (by decide) ?_
    refine cl_vv (pc := 56) (As := [.int ((0 : Int32)), .long ((0 : Int64))]) (rest := []) C h (m_X6_walk l D t a 7 ((0 : Int32)) ((0 : Int64)) z8 _ hw) mw_X6_walk lm_X6_89 md_X6_walk rcX_22 ⟨by decide, by decide⟩ ⟨Nat.zero_le _, Nat.zero_le _⟩ hl.1 rfl (Nat.le_of_ble_eq_true rfl) dX6_walkTwice_56 (fun z9 H locs hw h => ?_)
    refine lv_iconst (v := 1) (pc := 59) C.1 C.2.1 dX6_walkTwice_59 (by decide) ?_
    exact rt_z (pc := 60) C hr hlk h (Or.inr rfl) hw dX6_walkTwice_60
  · have hw := hw.2 c6
    refine lv_iconst (v := 0) (pc := 36) C.1 C.2.1 dX6_walkTwice_36 (by decide) ?_
    exact rt_z (pc := 37) C hr hlk h (Or.inl rfl) hw dX6_walkTwice_37
