def wp_X8_fill (b1 : Int32) (b2 : Int32) (b3 : Int32) (z : St) (P : Int64 → St → Prop) : Prop :=
  (∀ K1 : St → Prop, (∀ (z2 : St), (wp_X8_refuse ((-1 : Int32)) z2 (fun r4 z3 => P (((-4000000000000000000 : Int64)) + (Int32.toInt64 r4)) z3)) → K1 z2) → (((b2 < ((1 : Int32))) → K1 z) ∧ (¬ (b2 < ((1 : Int32))) → (((((48 : Int32)) < b2) → K1 z) ∧ (¬ (((48 : Int32)) < b2) → (((((168 : Int32)) < ((gI z 2104) + b2)) → K1 z) ∧ (¬ (((168 : Int32)) < ((gI z 2104) + b2)) → (wp_X7_mostOf b1 z (fun r9 z8 => (wp_X8_isWithin b3 r9 z8 (fun r11 z10 => (((¬ r11 = 0) → (wp_X7_has b1 z10 (fun r14 z13 => (((¬ r14 = 0) → (wp_X7_cheapest b1 (gI z13 2104) b2 b3 z13 (fun r17 z16 => (((¬ (lg_cmp r17 ((1000000000000000000 : Int64))) = 0) → (wp_X7_keep b1 b2 z16 (fun z19 => (wp_X8_accept ((0 : Int32)) z19 (fun r22 z21 => P r17 z21))))) ∧ ((lg_cmp r17 ((1000000000000000000 : Int64))) = 0 → (wp_X8_refuse ((-6 : Int32)) z16 (fun r24 z23 => P (((-4000000000000000000 : Int64)) + (Int32.toInt64 r24)) z23))))))) ∧ (r14 = 0 → (wp_X8_refuse ((-2 : Int32)) z13 (fun r26 z25 => P (((-4000000000000000000 : Int64)) + (Int32.toInt64 r26)) z25))))))) ∧ (r11 = 0 → K1 z10)))))))))))))
set_option maxHeartbeats 4000000 in
set_option maxRecDepth 100000 in
theorem m_X8_fill (l : Launch) (D : va_G) (t : Ty3) (a : Nat → Nat) (b1 : Int32) (b2 : Int32) (b3 : Int32) (z : St) (P : Int64 → St → Prop) (hw : wp_X8_fill b1 b2 b3 z P) : CtL l D t yX8_fill cX8_fill 6 (some .long) 4 (wX t a) (wX t a z) [.ref (a 0), .int b1, .int b2, .int b3] P := by
  refine ctL_of (by decide) (Nat.le_of_ble_eq_true rfl) ?_
  intro p e s m args below meth c A ls C hr hlk h hl
  have hl : lv_has ls 6 [(0, .ref (a 0)), (1, .int b1), (2, .int b2), (3, .int b3)] := hl
  unfold wp_X8_fill at hw
  refine lv_iload_n (pc := 0) C.1 C.2.1 dX8_fill_0 rfl (lv_at hl 2 rfl) ?_
  refine lv_iconst (v := 1) (pc := 1) C.1 C.2.1 dX8_fill_1 (by decide) ?_
  have hw := hw (fun (z2 : St) => ∀ (H : Heap) (locs : List Loc) (ls : Array Slot), wd D t A s (wX t a z2) H locs → lv_has ls 6 [(0, .ref (a 0))] → W p l e (rmd 4) s m args below meth c H locs 0 0 (QL D t A (wX t a) P below args s) (F0 m 41 ls [])) (by
      intro z2 hw H locs ls h hl
      refine lv_ldc2 (pc := 41) C.1 C.2.1 C.2.2.2.1 (C.2.2.2.2 _ lc_X8_179) dX8_fill_41 ?_
      refine lv_aload_n (pc := 44) C.1 C.2.1 dX8_fill_44 rfl (lv_at hl 0 rfl) ?_
      refine lv_iconst (v := -1) (pc := 45) C.1 C.2.1 dX8_fill_45 (by decide) ?_
      refine cl_vi (pc := 46) (As := [.int ((-1 : Int32))]) (rest := [.long ((-4000000000000000000 : Int64))]) C h (m_X8_refuse l D t a ((-1 : Int32)) z2 _ hw) mw_X8_refuse lm_X8_81 md_X8_refuse rcX_0 ⟨by decide, by decide⟩ ⟨Nat.zero_le _, Nat.zero_le _⟩ hl.1 rfl (Nat.le_of_ble_eq_true rfl) dX8_fill_46 (fun r4 z3 H locs hw h => ?_)
      refine lv_i2l (pc := 49) C.1 C.2.1 dX8_fill_49 rfl ?_
      refine lv_ladd (pc := 50) C.1 C.2.1 dX8_fill_50 ?_
      exact rt_l (pc := 51) C hr hlk h hw dX8_fill_51)
  refine lv_icmp_lt (tgt := 41) (pc := 2) C.1 C.2.1 dX8_fill_2 (by decide) (fun c5 => ?_) (fun c5 => ?_)
  · have hw := hw.1 c5
    exact hw _ _ _ h (lv_sub hl [0] rfl)
  · have hw := hw.2 c5
    refine lv_iload_n (pc := 5) C.1 C.2.1 dX8_fill_5 rfl (lv_at hl 2 rfl) ?_
    refine lv_bipush (v := 48) (pc := 6) C.1 C.2.1 dX8_fill_6 (by decide) ?_
    refine lv_icmp_gt (tgt := 41) (pc := 8) C.1 C.2.1 dX8_fill_8 (by decide) (fun c6 => ?_) (fun c6 => ?_)
    · have hw := hw.1 c6
      exact hw _ _ _ h (lv_sub hl [0] rfl)
    · have hw := hw.2 c6
      refine lv_aload_n (pc := 11) C.1 C.2.1 dX8_fill_11 rfl (lv_at hl 0 rfl) ?_
      refine GX_X8_37_0 (pc := 12) C h dX8_fill_12 ?_
      refine GX_X8_92_21 (pc := 15) C h dX8_fill_15 ?_
      refine lv_iload_n (pc := 18) C.1 C.2.1 dX8_fill_18 rfl (lv_at hl 2 rfl) ?_
      refine lv_iadd (pc := 19) C.1 C.2.1 dX8_fill_19 ?_
      refine lv_sipush (v := 168) (pc := 20) C.1 C.2.1 dX8_fill_20 (by decide) ?_
      refine lv_icmp_gt (tgt := 41) (pc := 23) C.1 C.2.1 dX8_fill_23 (by decide) (fun c7 => ?_) (fun c7 => ?_)
      · have hw := hw.1 c7
        exact hw _ _ _ h (lv_sub hl [0] rfl)
      · have hw := hw.2 c7
        refine lv_iload_n (pc := 26) C.1 C.2.1 dX8_fill_26 rfl (lv_at hl 3 rfl) ?_
        refine lv_aload_n (pc := 27) C.1 C.2.1 dX8_fill_27 rfl (lv_at hl 0 rfl) ?_
        refine GX_X8_53_0 (pc := 28) C h dX8_fill_28 ?_
        refine lv_iload_n (pc := 31) C.1 C.2.1 dX8_fill_31 rfl (lv_at hl 1 rfl) ?_
        refine cl_vi (pc := 32) (As := [.int b1]) (rest := [.int b3]) C h (m_X7_mostOf l D t a b1 z _ hw) mw_X7_mostOf lm_X8_236 md_X7_mostOf rcX_39 ⟨by decide, by decide⟩ ⟨Nat.zero_le _, Nat.zero_le _⟩ hl.1 rfl (Nat.le_of_ble_eq_true rfl) dX8_fill_32 (fun r9 z8 H locs hw h => ?_)
        refine cl_si (pc := 35) (As := [.int b3, .int r9]) (rest := []) C h (m_X8_isWithin l D t a b3 r9 z8 _ hw) mw_X8_isWithin lm_X8_113 md_X8_isWithin ⟨by decide, by decide⟩ ⟨Nat.zero_le _, Nat.zero_le _⟩ hl.1 rfl (Nat.le_of_ble_eq_true rfl) dX8_fill_35 (fun r11 z10 H locs hw h => ?_)
        refine lv_if_ne (tgt := 52) (pc := 38) C.1 C.2.1 dX8_fill_38 (by decide) (fun c12 => ?_) (fun c12 => ?_)
        · have hw := hw.1 c12
          refine lv_aload_n (pc := 52) C.1 C.2.1 dX8_fill_52 rfl (lv_at hl 0 rfl) ?_
          refine GX_X8_53_0 (pc := 53) C h dX8_fill_53 ?_
          refine lv_iload_n (pc := 56) C.1 C.2.1 dX8_fill_56 rfl (lv_at hl 1 rfl) ?_
          refine cl_vi (pc := 57) (As := [.int b1]) (rest := []) C h (m_X7_has l D t a b1 z10 _ hw) mw_X7_has lm_X8_239 md_X7_has rcX_39 ⟨by decide, by decide⟩ ⟨Nat.zero_le _, Nat.zero_le _⟩ hl.1 rfl (Nat.le_of_ble_eq_true rfl) dX8_fill_57 (fun r14 z13 H locs hw h => ?_)
          refine lv_if_ne (tgt := 75) (pc := 60) C.1 C.2.1 dX8_fill_60 (by decide) (fun c15 => ?_) (fun c15 => ?_)
          · have hw := hw.1 c15
            refine lv_aload_n (pc := 75) C.1 C.2.1 dX8_fill_75 rfl (lv_at hl 0 rfl) ?_
            refine GX_X8_53_0 (pc := 76) C h dX8_fill_76 ?_
            refine lv_iload_n (pc := 79) C.1 C.2.1 dX8_fill_79 rfl (lv_at hl 1 rfl) ?_
            refine lv_aload_n (pc := 80) C.1 C.2.1 dX8_fill_80 rfl (lv_at hl 0 rfl) ?_
            refine GX_X8_37_0 (pc := 81) C h dX8_fill_81 ?_
            refine GX_X8_92_21 (pc := 84) C h dX8_fill_84 ?_
            refine lv_iload_n (pc := 87) C.1 C.2.1 dX8_fill_87 rfl (lv_at hl 2 rfl) ?_
            refine lv_iload_n (pc := 88) C.1 C.2.1 dX8_fill_88 rfl (lv_at hl 3 rfl) ?_
            refine cl_vl (pc := 89) (As := [.int b1, .int (gI z13 2104), .int b2, .int b3]) (rest := []) C h (m_X7_cheapest l D t a b1 (gI z13 2104) b2 b3 z13 _ hw) mw_X7_cheapest lm_X8_243 md_X7_cheapest rcX_39 ⟨by decide, by decide⟩ ⟨Nat.zero_le _, Nat.zero_le _⟩ hl.1 rfl (Nat.le_of_ble_eq_true rfl) dX8_fill_89 (fun r17 z16 H locs hw h => ?_)
            refine lv_lstore (lv' := [(4, .long r17), (0, .ref (a 0)), (1, .int b1), (2, .int b2), (3, .int b3)]) (pc := 92) C.1 C.2.1 dX8_fill_92 hl (by decide) rfl (fun ls hl => ?_)
            refine lv_lload (pc := 94) C.1 C.2.1 dX8_fill_94 (lv_at hl 0 rfl) ?_
            refine lv_ldc2 (pc := 96) C.1 C.2.1 C.2.2.2.1 (C.2.2.2.2 _ lc_X8_247) dX8_fill_96 ?_
            refine W.lcmp (pc := 99) C.1 C.2.1 dX8_fill_99 ?_
            refine lv_if_ne (tgt := 115) (pc := 100) C.1 C.2.1 dX8_fill_100 (by decide) (fun c18 => ?_) (fun c18 => ?_)
            · have hw := hw.1 c18
              refine lv_aload_n (pc := 115) C.1 C.2.1 dX8_fill_115 rfl (lv_at hl 1 rfl) ?_
              refine GX_X8_53_0 (pc := 116) C h dX8_fill_116 ?_
              refine lv_iload_n (pc := 119) C.1 C.2.1 dX8_fill_119 rfl (lv_at hl 2 rfl) ?_
              refine lv_iload_n (pc := 120) C.1 C.2.1 dX8_fill_120 rfl (lv_at hl 3 rfl) ?_
              refine cl_vv (pc := 121) (As := [.int b1, .int b2]) (rest := []) C h (m_X7_keep l D t a b1 b2 z16 _ hw) mw_X7_keep lm_X8_249 md_X7_keep rcX_39 ⟨by decide, by decide⟩ ⟨Nat.zero_le _, Nat.zero_le _⟩ hl.1 rfl (Nat.le_of_ble_eq_true rfl) dX8_fill_121 (fun z19 H locs hw h => ?_)
              refine lv_aload_n (pc := 124) C.1 C.2.1 dX8_fill_124 rfl (lv_at hl 1 rfl) ?_
              refine lv_iconst (v := 0) (pc := 125) C.1 C.2.1 dX8_fill_125 (by decide) ?_
              refine cl_vi (pc := 126) (As := [.int ((0 : Int32))]) (rest := []) C h (m_X8_accept l D t a ((0 : Int32)) z19 _ hw) mw_X8_accept lm_X8_99 md_X8_accept rcX_0 ⟨by decide, by decide⟩ ⟨Nat.zero_le _, Nat.zero_le _⟩ hl.1 rfl (Nat.le_of_ble_eq_true rfl) dX8_fill_126 (fun r22 z21 H locs hw h => ?_)
              refine lv_pop (pc := 129) C.1 C.2.1 dX8_fill_129 rfl ?_
              refine lv_lload (pc := 130) C.1 C.2.1 dX8_fill_130 (lv_at hl 0 rfl) ?_
              exact rt_l (pc := 132) C hr hlk h hw dX8_fill_132
            · have hw := hw.2 c18
              refine lv_ldc2 (pc := 103) C.1 C.2.1 C.2.2.2.1 (C.2.2.2.2 _ lc_X8_179) dX8_fill_103 ?_
              refine lv_aload_n (pc := 106) C.1 C.2.1 dX8_fill_106 rfl (lv_at hl 1 rfl) ?_
              refine lv_bipush (v := -6) (pc := 107) C.1 C.2.1 dX8_fill_107 (by decide) ?_
              refine cl_vi (pc := 109) (As := [.int ((-6 : Int32))]) (rest := [.long ((-4000000000000000000 : Int64))]) C h (m_X8_refuse l D t a ((-6 : Int32)) z16 _ hw) mw_X8_refuse lm_X8_81 md_X8_refuse rcX_0 ⟨by decide, by decide⟩ ⟨Nat.zero_le _, Nat.zero_le _⟩ hl.1 rfl (Nat.le_of_ble_eq_true rfl) dX8_fill_109 (fun r24 z23 H locs hw h => ?_)
              refine lv_i2l (pc := 112) C.1 C.2.1 dX8_fill_112 rfl ?_
              refine lv_ladd (pc := 113) C.1 C.2.1 dX8_fill_113 ?_
              exact rt_l (pc := 114) C hr hlk h hw dX8_fill_114
          · have hw := hw.2 c15
            refine lv_ldc2 (pc := 63) C.1 C.2.1 C.2.2.2.1 (C.2.2.2.2 _ lc_X8_179) dX8_fill_63 ?_
            refine lv_aload_n (pc := 66) C.1 C.2.1 dX8_fill_66 rfl (lv_at hl 0 rfl) ?_
            refine lv_bipush (v := -2) (pc := 67) C.1 C.2.1 dX8_fill_67 (by decide) ?_
            refine cl_vi (pc := 69) (As := [.int ((-2 : Int32))]) (rest := [.long ((-4000000000000000000 : Int64))]) C h (m_X8_refuse l D t a ((-2 : Int32)) z13 _ hw) mw_X8_refuse lm_X8_81 md_X8_refuse rcX_0 ⟨by decide, by decide⟩ ⟨Nat.zero_le _, Nat.zero_le _⟩ hl.1 rfl (Nat.le_of_ble_eq_true rfl) dX8_fill_69 (fun r26 z25 H locs hw h => ?_)
            refine lv_i2l (pc := 72) C.1 C.2.1 dX8_fill_72 rfl ?_
            refine lv_ladd (pc := 73) C.1 C.2.1 dX8_fill_73 ?_
            exact rt_l (pc := 74) C hr hlk h hw dX8_fill_74
        · have hw := hw.2 c12
          exact hw _ _ _ h (lv_sub hl [0] rfl)

def wp_X8_filled (b1 : Int32) (b2 : Int32) (z : St) (P : Int32 → St → Prop) : Prop :=
  (((b1 < 0) → P ((-1000 : Int32)) z) ∧ (¬ (b1 < 0) → (((b1 < (gI z 3915)) → (((¬ b2 = 0) → (((¬ b2 = ((1 : Int32))) → P ((-1000 : Int32)) z) ∧ (b2 = ((1 : Int32)) → (vp_in b1 48 ∧ P (gF z 51 b1.toNatClampNeg) z)))) ∧ (b2 = 0 → (vp_in b1 48 ∧ P (gF z 50 b1.toNatClampNeg) z)))) ∧ (¬ (b1 < (gI z 3915)) → P ((-1000 : Int32)) z))))
set_option maxHeartbeats 4000000 in
set_option maxRecDepth 100000 in
theorem m_X8_filled (l : Launch) (D : va_G) (t : Ty3) (a : Nat → Nat) (b1 : Int32) (b2 : Int32) (z : St) (P : Int32 → St → Prop) (hw : wp_X8_filled b1 b2 z P) : CtI l D t yX8_filled cX8_filled 3 (some .int) 0 (wX t a) (wX t a z) [.ref (a 0), .int b1, .int b2] P := by
  refine ctI_of (by decide) (Nat.le_of_ble_eq_true rfl) ?_
  intro p e s m args below meth c A ls C hr hlk h hl
  have hl : lv_has ls 3 [(0, .ref (a 0)), (1, .int b1), (2, .int b2)] := hl
  unfold wp_X8_filled at hw
  refine lv_iload_n (pc := 0) C.1 C.2.1 dX8_filled_0 rfl (lv_at hl 1 rfl) ?_
  refine lv_if_lt (tgt := 15) (pc := 1) C.1 C.2.1 dX8_filled_1 (by decide) (fun c1 => ?_) (fun c1 => ?_)
  · have hw := hw.1 c1
    refine lv_sipush (v := -1000) (pc := 15) C.1 C.2.1 dX8_filled_15 (by decide) ?_
    exact rt_i (pc := 18) C hr hlk h hw dX8_filled_18
  · have hw := hw.2 c1
    refine lv_iload_n (pc := 4) C.1 C.2.1 dX8_filled_4 rfl (lv_at hl 1 rfl) ?_
    refine lv_aload_n (pc := 5) C.1 C.2.1 dX8_filled_5 rfl (lv_at hl 0 rfl) ?_
    refine GX_X8_53_0 (pc := 6) C h dX8_filled_6 ?_
    refine GX_X8_252_39 (pc := 9) C h dX8_filled_9 ?_
    refine lv_icmp_lt (tgt := 19) (pc := 12) C.1 C.2.1 dX8_filled_12 (by decide) (fun c2 => ?_) (fun c2 => ?_)
    · have hw := hw.1 c2
      refine lv_iload_n (pc := 19) C.1 C.2.1 dX8_filled_19 rfl (lv_at hl 2 rfl) ?_
      refine lv_if_ne (tgt := 33) (pc := 20) C.1 C.2.1 dX8_filled_20 (by decide) (fun c3 => ?_) (fun c3 => ?_)
      · have hw := hw.1 c3
        refine lv_iload_n (pc := 33) C.1 C.2.1 dX8_filled_33 rfl (lv_at hl 2 rfl) ?_
        refine lv_iconst (v := 1) (pc := 34) C.1 C.2.1 dX8_filled_34 (by decide) ?_
        refine lv_icmp_ne (tgt := 50) (pc := 35) C.1 C.2.1 dX8_filled_35 (by decide) (fun c4 => ?_) (fun c4 => ?_)
        · have hw := hw.1 c4
          refine lv_sipush (v := -1000) (pc := 50) C.1 C.2.1 dX8_filled_50 (by decide) ?_
          exact rt_i (pc := 53) C hr hlk h hw dX8_filled_53
        · have hw := hw.2 c4
          refine lv_aload_n (pc := 38) C.1 C.2.1 dX8_filled_38 rfl (lv_at hl 0 rfl) ?_
          refine GX_X8_53_0 (pc := 39) C h dX8_filled_39 ?_
          refine GX_X8_258_39 (pc := 42) C h dX8_filled_42 ?_
          refine lv_iload_n (pc := 45) C.1 C.2.1 dX8_filled_45 rfl (lv_at hl 1 rfl) ?_
          refine ldX_51 (pc := 46) C h hw.1 dX8_filled_46 ?_
          have hw := hw.2
          refine lv_goto (tgt := 53) (pc := 47) C.1 C.2.1 dX8_filled_47 (by decide) ?_
          exact rt_i (pc := 53) C hr hlk h hw dX8_filled_53
      · have hw := hw.2 c3
        refine lv_aload_n (pc := 23) C.1 C.2.1 dX8_filled_23 rfl (lv_at hl 0 rfl) ?_
        refine GX_X8_53_0 (pc := 24) C h dX8_filled_24 ?_
        refine GX_X8_255_39 (pc := 27) C h dX8_filled_27 ?_
        refine lv_iload_n (pc := 30) C.1 C.2.1 dX8_filled_30 rfl (lv_at hl 1 rfl) ?_
        refine ldX_50 (pc := 31) C h hw.1 dX8_filled_31 ?_
        have hw := hw.2
        exact rt_i (pc := 32) C hr hlk h hw dX8_filled_32
    · have hw := hw.2 c2
      refine lv_sipush (v := -1000) (pc := 15) C.1 C.2.1 dX8_filled_15 (by decide) ?_
      exact rt_i (pc := 18) C hr hlk h hw dX8_filled_18

def wp_X8_count (b1 : Int32) (z : St) (P : Int32 → St → Prop) : Prop :=
  ((b1 = 0 → P (gI z 2104) z) ∧ (b1 = 1 → P (gI z 705) z) ∧ (b1 = 2 → P (gI z 1308) z) ∧ (b1 = 3 → P (gI z 105) z) ∧ (b1 = 4 → P (gI z 3403) z) ∧ (b1 = 5 → P (gI z 3909) z) ∧ (b1 = 6 → P (gI z 3701) z) ∧ (b1 = 7 → (wp_X1_inState ((0 : Int32)) z (fun r3 z2 => P r3 z2))) ∧ (b1 = 8 → (wp_X1_inState ((1 : Int32)) z (fun r5 z4 => P r5 z4))) ∧ (b1 = 9 → (wp_X1_inState ((2 : Int32)) z (fun r7 z6 => P r7 z6))) ∧ ((b1.toInt < 0 ∨ 9 < b1.toInt) → P ((-1 : Int32)) z))
set_option maxHeartbeats 4000000 in
set_option maxRecDepth 100000 in
theorem m_X8_count (l : Launch) (D : va_G) (t : Ty3) (a : Nat → Nat) (b1 : Int32) (z : St) (P : Int32 → St → Prop) (hw : wp_X8_count b1 z P) : CtI l D t yX8_count cX8_count 2 (some .int) 1 (wX t a) (wX t a z) [.ref (a 0), .int b1] P := by
  refine ctI_of (by decide) (Nat.le_of_ble_eq_true rfl) ?_
  intro p e s m args below meth c A ls C hr hlk h hl
  have hl : lv_has ls 2 [(0, .ref (a 0)), (1, .int b1)] := hl
  unfold wp_X8_count at hw
  refine lv_iload_n (pc := 0) C.1 C.2.1 dX8_count_0 rfl (lv_at hl 1 rfl) ?_
  by_cases c1_0 : b1 = 0
  · have hw := hw.1 c1_0
    refine lv_tableIn (off := 55) (tgt := 56) (pc := 1) C.1 C.2.1 dX8_count_1 (by rw [c1_0]; decide) (by rw [c1_0]; decide) (by rw [c1_0]; rfl) (by decide) ?_
    refine lv_aload_n (pc := 56) C.1 C.2.1 dX8_count_56 rfl (lv_at hl 0 rfl) ?_
    refine GX_X8_37_0 (pc := 57) C h dX8_count_57 ?_
    refine GX_X8_92_21 (pc := 60) C h dX8_count_60 ?_
    exact rt_i (pc := 63) C hr hlk h hw dX8_count_63
  by_cases c1_1 : b1 = 1
  · have hw := hw.2.1 c1_1
    refine lv_tableIn (off := 63) (tgt := 64) (pc := 1) C.1 C.2.1 dX8_count_1 (by rw [c1_1]; decide) (by rw [c1_1]; decide) (by rw [c1_1]; rfl) (by decide) ?_
    refine lv_aload_n (pc := 64) C.1 C.2.1 dX8_count_64 rfl (lv_at hl 0 rfl) ?_
    refine GX_X8_19_0 (pc := 65) C h dX8_count_65 ?_
    refine GX_X8_117_7 (pc := 68) C h dX8_count_68 ?_
    exact rt_i (pc := 71) C hr hlk h hw dX8_count_71
  by_cases c1_2 : b1 = 2
  · have hw := hw.2.2.1 c1_2
    refine lv_tableIn (off := 71) (tgt := 72) (pc := 1) C.1 C.2.1 dX8_count_1 (by rw [c1_2]; decide) (by rw [c1_2]; decide) (by rw [c1_2]; rfl) (by decide) ?_
    refine lv_aload_n (pc := 72) C.1 C.2.1 dX8_count_72 rfl (lv_at hl 0 rfl) ?_
    refine GX_X8_28_0 (pc := 73) C h dX8_count_73 ?_
    refine GX_X8_134_13 (pc := 76) C h dX8_count_76 ?_
    exact rt_i (pc := 79) C hr hlk h hw dX8_count_79
  by_cases c1_3 : b1 = 3
  · have hw := hw.2.2.2.1 c1_3
    refine lv_tableIn (off := 79) (tgt := 80) (pc := 1) C.1 C.2.1 dX8_count_1 (by rw [c1_3]; decide) (by rw [c1_3]; decide) (by rw [c1_3]; rfl) (by decide) ?_
    refine lv_aload_n (pc := 80) C.1 C.2.1 dX8_count_80 rfl (lv_at hl 0 rfl) ?_
    refine GX_X8_10_0 (pc := 81) C h dX8_count_81 ?_
    refine GX_X8_85_1 (pc := 84) C h dX8_count_84 ?_
    exact rt_i (pc := 87) C hr hlk h hw dX8_count_87
  by_cases c1_4 : b1 = 4
  · have hw := hw.2.2.2.2.1 c1_4
    refine lv_tableIn (off := 87) (tgt := 88) (pc := 1) C.1 C.2.1 dX8_count_1 (by rw [c1_4]; decide) (by rw [c1_4]; decide) (by rw [c1_4]; rfl) (by decide) ?_
    refine lv_aload_n (pc := 88) C.1 C.2.1 dX8_count_88 rfl (lv_at hl 0 rfl) ?_
    refine GX_X8_37_0 (pc := 89) C h dX8_count_89 ?_
    refine GX_X8_212_21 (pc := 92) C h dX8_count_92 ?_
    refine GX_X8_215_34 (pc := 95) C h dX8_count_95 ?_
    exact rt_i (pc := 98) C hr hlk h hw dX8_count_98
  by_cases c1_5 : b1 = 5
  · have hw := hw.2.2.2.2.2.1 c1_5
    refine lv_tableIn (off := 98) (tgt := 99) (pc := 1) C.1 C.2.1 dX8_count_1 (by rw [c1_5]; decide) (by rw [c1_5]; decide) (by rw [c1_5]; rfl) (by decide) ?_
    refine lv_aload_n (pc := 99) C.1 C.2.1 dX8_count_99 rfl (lv_at hl 0 rfl) ?_
    refine GX_X8_53_0 (pc := 100) C h dX8_count_100 ?_
    refine GX_X8_229_39 (pc := 103) C h dX8_count_103 ?_
    exact rt_i (pc := 106) C hr hlk h hw dX8_count_106
  by_cases c1_6 : b1 = 6
  · have hw := hw.2.2.2.2.2.2.1 c1_6
    refine lv_tableIn (off := 106) (tgt := 107) (pc := 1) C.1 C.2.1 dX8_count_1 (by rw [c1_6]; decide) (by rw [c1_6]; decide) (by rw [c1_6]; rfl) (by decide) ?_
    refine lv_aload_n (pc := 107) C.1 C.2.1 dX8_count_107 rfl (lv_at hl 0 rfl) ?_
    refine GX_X8_44_0 (pc := 108) C h dX8_count_108 ?_
    refine GX_X8_199_37 (pc := 111) C h dX8_count_111 ?_
    exact rt_i (pc := 114) C hr hlk h hw dX8_count_114
  by_cases c1_7 : b1 = 7
  · have hw := hw.2.2.2.2.2.2.2.1 c1_7
    refine lv_tableIn (off := 114) (tgt := 115) (pc := 1) C.1 C.2.1 dX8_count_1 (by rw [c1_7]; decide) (by rw [c1_7]; decide) (by rw [c1_7]; rfl) (by decide) ?_
    refine lv_aload_n (pc := 115) C.1 C.2.1 dX8_count_115 rfl (lv_at hl 0 rfl) ?_
    refine GX_X8_28_0 (pc := 116) C h dX8_count_116 ?_
    refine lv_iconst (v := 0) (pc := 119) C.1 C.2.1 dX8_count_119 (by decide) ?_
    refine cl_vi (pc := 120) (As := [.int ((0 : Int32))]) (rest := []) C h (m_X1_inState l D t a ((0 : Int32)) z _ hw) mw_X1_inState lm_X8_176 md_X1_inState rcX_13 ⟨by decide, by decide⟩ ⟨Nat.zero_le _, Nat.zero_le _⟩ hl.1 rfl (Nat.le_of_ble_eq_true rfl) dX8_count_120 (fun r3 z2 H locs hw h => ?_)
    exact rt_i (pc := 123) C hr hlk h hw dX8_count_123
  by_cases c1_8 : b1 = 8
  · have hw := hw.2.2.2.2.2.2.2.2.1 c1_8
    refine lv_tableIn (off := 123) (tgt := 124) (pc := 1) C.1 C.2.1 dX8_count_1 (by rw [c1_8]; decide) (by rw [c1_8]; decide) (by rw [c1_8]; rfl) (by decide) ?_
    refine lv_aload_n (pc := 124) C.1 C.2.1 dX8_count_124 rfl (lv_at hl 0 rfl) ?_
    refine GX_X8_28_0 (pc := 125) C h dX8_count_125 ?_
    refine lv_iconst (v := 1) (pc := 128) C.1 C.2.1 dX8_count_128 (by decide) ?_
    refine cl_vi (pc := 129) (As := [.int ((1 : Int32))]) (rest := []) C h (m_X1_inState l D t a ((1 : Int32)) z _ hw) mw_X1_inState lm_X8_176 md_X1_inState rcX_13 ⟨by decide, by decide⟩ ⟨Nat.zero_le _, Nat.zero_le _⟩ hl.1 rfl (Nat.le_of_ble_eq_true rfl) dX8_count_129 (fun r5 z4 H locs hw h => ?_)
    exact rt_i (pc := 132) C hr hlk h hw dX8_count_132
  by_cases c1_9 : b1 = 9
  · have hw := hw.2.2.2.2.2.2.2.2.2.1 c1_9
    refine lv_tableIn (off := 132) (tgt := 133) (pc := 1) C.1 C.2.1 dX8_count_1 (by rw [c1_9]; decide) (by rw [c1_9]; decide) (by rw [c1_9]; rfl) (by decide) ?_
    refine lv_aload_n (pc := 133) C.1 C.2.1 dX8_count_133 rfl (lv_at hl 0 rfl) ?_
    refine GX_X8_28_0 (pc := 134) C h dX8_count_134 ?_
    refine lv_iconst (v := 2) (pc := 137) C.1 C.2.1 dX8_count_137 (by decide) ?_
    refine cl_vi (pc := 138) (As := [.int ((2 : Int32))]) (rest := []) C h (m_X1_inState l D t a ((2 : Int32)) z _ hw) mw_X1_inState lm_X8_176 md_X1_inState rcX_13 ⟨by decide, by decide⟩ ⟨Nat.zero_le _, Nat.zero_le _⟩ hl.1 rfl (Nat.le_of_ble_eq_true rfl) dX8_count_138 (fun r7 z6 H locs hw h => ?_)
    exact rt_i (pc := 141) C hr hlk h hw dX8_count_141
  have nc1_0 := lv_neT (a := 0) c1_0 (by decide)
  have nc1_1 := lv_neT (a := 1) c1_1 (by decide)
  have nc1_2 := lv_neT (a := 2) c1_2 (by decide)
  have nc1_3 := lv_neT (a := 3) c1_3 (by decide)
  have nc1_4 := lv_neT (a := 4) c1_4 (by decide)
  have nc1_5 := lv_neT (a := 5) c1_5 (by decide)
  have nc1_6 := lv_neT (a := 6) c1_6 (by decide)
  have nc1_7 := lv_neT (a := 7) c1_7 (by decide)
  have nc1_8 := lv_neT (a := 8) c1_8 (by decide)
  have nc1_9 := lv_neT (a := 9) c1_9 (by decide)
  have hdc1 : b1.toInt < 0 ∨ 9 < b1.toInt := by omega
  have hw := hw.2.2.2.2.2.2.2.2.2.2 hdc1
  refine lv_tableOut (tgt := 142) (pc := 1) C.1 C.2.1 dX8_count_1 hdc1 (by decide) ?_
  refine lv_iconst (v := -1) (pc := 142) C.1 C.2.1 dX8_count_142 (by decide) ?_
  exact rt_i (pc := 143) C hr hlk h hw dX8_count_143

def wp_X8_status  (z : St) (P : Int32 → St → Prop) : Prop :=
  P (gI z 8) z
set_option maxHeartbeats 4000000 in
set_option maxRecDepth 100000 in
theorem m_X8_status (l : Launch) (D : va_G) (t : Ty3) (a : Nat → Nat)  (z : St) (P : Int32 → St → Prop) (hw : wp_X8_status z P) : CtI l D t yX8_status cX8_status 1 (some .int) 0 (wX t a) (wX t a z) [.ref (a 0)] P := by
  refine ctI_of (by decide) (Nat.le_of_ble_eq_true rfl) ?_
  intro p e s m args below meth c A ls C hr hlk h hl
  have hl : lv_has ls 1 [(0, .ref (a 0))] := hl
  unfold wp_X8_status at hw
  refine lv_aload_n (pc := 0) C.1 C.2.1 dX8_status_0 rfl (lv_at hl 0 rfl) ?_
  refine GX_X8_68_0 (pc := 1) C h dX8_status_1 ?_
  exact rt_i (pc := 4) C hr hlk h hw dX8_status_4
