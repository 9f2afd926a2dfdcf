def wp_X2_mayBeginAsOpen (b1 : Int32) (b2 : Int32) (z : St) (P : Int32 → St → Prop) : Prop :=
  (vp_in b1 16 ∧ (∀ x1 : Int32, x1 = gF z 20 b1.toNatClampNeg → (wp_X1_reopen b1 z (fun z2 => (wp_X2_mayBegin b1 b2 z2 (fun r5 z4 => (((x1 = ((-1 : Int32))) → ((r5 = 0 ∨ r5 = 1) ∧ P r5 z4)) ∧ (¬ (x1 = ((-1 : Int32))) → (wp_X1_plan b1 x1 z4 (fun z7 => ((r5 = 0 ∨ r5 = 1) ∧ P r5 z7)))))))))))
set_option maxHeartbeats 4000000 in
set_option maxRecDepth 100000 in
theorem m_X2_mayBeginAsOpen (l : Launch) (D : va_G) (t : Ty3) (a : Nat → Nat) (b1 : Int32) (b2 : Int32) (z : St) (P : Int32 → St → Prop) (hw : wp_X2_mayBeginAsOpen b1 b2 z P) : CtI l D t yX2_mayBeginAsOpen cX2_mayBeginAsOpen 5 (some .boolean) 4 (wX t a) (wX t a z) [.ref (a 21), .int b1, .int b2] P := by
  refine ctI_of (by decide) (Nat.le_of_ble_eq_true rfl) ?_
  intro p e s m args below meth c A ls C hr hlk h hl
  have hl : lv_has ls 5 [(0, .ref (a 21)), (1, .int b1), (2, .int b2)] := hl
  unfold wp_X2_mayBeginAsOpen at hw
  refine lv_aload_n (pc := 0) C.1 C.2.1 dX2_mayBeginAsOpen_0 rfl (lv_at hl 0 rfl) ?_
  refine GX_X2_15_21 (pc := 1) C h dX2_mayBeginAsOpen_1 ?_
  refine GX_X2_39_13 (pc := 4) C h dX2_mayBeginAsOpen_4 ?_
  refine lv_iload_n (pc := 7) C.1 C.2.1 dX2_mayBeginAsOpen_7 rfl (lv_at hl 1 rfl) ?_
  refine ldX_20 (pc := 8) C h hw.1 dX2_mayBeginAsOpen_8 ?_
  have hw := hw.2
  refine lv_topi (fun x1 ex1 => ?_)
  have hw := hw x1 ex1
  refine lv_istore_n (lv' := [(3, .int x1), (0, .ref (a 21)), (1, .int b1), (2, .int b2)]) (pc := 9) C.1 C.2.1 dX2_mayBeginAsOpen_9 rfl hl (by decide) rfl (fun ls hl => ?_)
  refine lv_aload_n (pc := 10) C.1 C.2.1 dX2_mayBeginAsOpen_10 rfl (lv_at hl 1 rfl) ?_
  refine GX_X2_15_21 (pc := 11) C h dX2_mayBeginAsOpen_11 ?_
  refine lv_iload_n (pc := 14) C.1 C.2.1 dX2_mayBeginAsOpen_14 rfl (lv_at hl 2 rfl) ?_
  refine cl_vv (pc := 15) (As := [.int b1]) (rest := []) C h (m_X1_reopen l D t a b1 z _ hw) mw_X1_reopen lm_X2_45 md_X1_reopen rcX_13 ⟨by decide, by decide⟩ ⟨Nat.zero_le _, Nat.zero_le _⟩ hl.1 rfl (Nat.le_of_ble_eq_true rfl) dX2_mayBeginAsOpen_15 (fun z2 H locs hw h => ?_)
  refine lv_aload_n (pc := 18) C.1 C.2.1 dX2_mayBeginAsOpen_18 rfl (lv_at hl 1 rfl) ?_
  refine lv_iload_n (pc := 19) C.1 C.2.1 dX2_mayBeginAsOpen_19 rfl (lv_at hl 2 rfl) ?_
  refine lv_iload_n (pc := 20) C.1 C.2.1 dX2_mayBeginAsOpen_20 rfl (lv_at hl 3 rfl) ?_
  refine cl_vi (pc := 21) (As := [.int b1, .int b2]) (rest := []) C h (m_X2_mayBegin l D t a b1 b2 z2 _ hw) mw_X2_mayBegin lm_X2_49 md_X2_mayBegin rcX_21 ⟨by decide, by decide⟩ ⟨Nat.zero_le _, Nat.zero_le _⟩ hl.1 rfl (Nat.le_of_ble_eq_true rfl) dX2_mayBeginAsOpen_21 (fun r5 z4 H locs hw h => ?_)
  refine lv_istore (lv' := [(4, .int r5), (3, .int x1), (0, .ref (a 21)), (1, .int b1), (2, .int b2)]) (pc := 24) C.1 C.2.1 dX2_mayBeginAsOpen_24 hl (by decide) rfl (fun ls hl => ?_)
  refine lv_iload_n (pc := 26) C.1 C.2.1 dX2_mayBeginAsOpen_26 rfl (lv_at hl 1 rfl) ?_
  refine lv_iconst (v := -1) (pc := 27) C.1 C.2.1 dX2_mayBeginAsOpen_27 (by decide) ?_
  refine lv_icmp_eq (tgt := 40) (pc := 28) C.1 C.2.1 dX2_mayBeginAsOpen_28 (by decide) (fun c6 => ?_) (fun c6 => ?_)
  · have hw := hw.1 c6
    refine lv_iload (pc := 40) C.1 C.2.1 dX2_mayBeginAsOpen_40 (lv_at hl 0 rfl) ?_
    exact rt_z (pc := 42) C hr hlk h hw.1 hw.2 dX2_mayBeginAsOpen_42
  · have hw := hw.2 c6
    refine lv_aload_n (pc := 31) C.1 C.2.1 dX2_mayBeginAsOpen_31 rfl (lv_at hl 2 rfl) ?_
    refine GX_X2_15_21 (pc := 32) C h dX2_mayBeginAsOpen_32 ?_
    refine lv_iload_n (pc := 35) C.1 C.2.1 dX2_mayBeginAsOpen_35 rfl (lv_at hl 3 rfl) ?_
    refine lv_iload_n (pc := 36) C.1 C.2.1 dX2_mayBeginAsOpen_36 rfl (lv_at hl 1 rfl) ?_
    refine cl_vv (pc := 37) (As := [.int b1, .int x1]) (rest := []) C h (m_X1_plan l D t a b1 x1 z4 _ hw) mw_X1_plan lm_X2_53 md_X1_plan rcX_13 ⟨by decide, by decide⟩ ⟨Nat.zero_le _, Nat.zero_le _⟩ hl.1 rfl (Nat.le_of_ble_eq_true rfl) dX2_mayBeginAsOpen_37 (fun z7 H locs hw h => ?_)
    refine lv_iload (pc := 40) C.1 C.2.1 dX2_mayBeginAsOpen_40 (lv_at hl 0 rfl) ?_
    exact rt_z (pc := 42) C hr hlk h hw.1 hw.2 dX2_mayBeginAsOpen_42

def wp_X8_may (b1 : Int32) (b2 : Int32) (z : St) (P : Int32 → St → Prop) : Prop :=
  (wp_X1_has b1 z (fun r2 z1 => (((r2 = 0) → P ((-1 : Int32)) z1) ∧ (¬ (r2 = 0) → (wp_X8_isHour b2 z1 (fun r5 z4 => (((r5 = 0) → P ((-1 : Int32)) z4) ∧ (¬ (r5 = 0) → (vp_in b1 16 ∧ (((¬ (gF z4 19 b1.toNatClampNeg) = ((2 : Int32))) → (wp_X2_mayBeginAsOpen b1 b2 z4 (fun r9 z8 => (((r9 = 0) → P ((0 : Int32)) z8) ∧ (¬ (r9 = 0) → P ((1 : Int32)) z8))))) ∧ ((gF z4 19 b1.toNatClampNeg) = ((2 : Int32)) → P ((-1 : Int32)) z4)))))))))))
set_option maxHeartbeats 4000000 in
set_option maxRecDepth 100000 in
theorem m_X8_may (l : Launch) (D : va_G) (t : Ty3) (a : Nat → Nat) (b1 : Int32) (b2 : Int32) (z : St) (P : Int32 → St → Prop) (hw : wp_X8_may b1 b2 z P) : CtI l D t yX8_may cX8_may 3 (some .int) 5 (wX t a) (wX t a z) [.ref (a 0), .int b1, .int b2] P := by
  refine ctI_of (by decide) (Nat.le_of_ble_eq_true rfl) ?_
  intro p e s m args below meth c A ls C hr hlk h hl
  have hl : lv_has ls 3 [(0, .ref (a 0)), (1, .int b1), (2, .int b2)] := hl
  unfold wp_X8_may at hw
  refine lv_aload_n (pc := 0) C.1 C.2.1 dX8_may_0 rfl (lv_at hl 0 rfl) ?_
  refine GX_X8_28_0 (pc := 1) C h dX8_may_1 ?_
  refine lv_iload_n (pc := 4) C.1 C.2.1 dX8_may_4 rfl (lv_at hl 1 rfl) ?_
  refine cl_vi (pc := 5) (As := [.int b1]) (rest := []) C h (m_X1_has l D t a b1 z _ hw) mw_X1_has lm_X8_143 md_X1_has rcX_13 ⟨by decide, by decide⟩ ⟨Nat.zero_le _, Nat.zero_le _⟩ hl.1 rfl (Nat.le_of_ble_eq_true rfl) dX8_may_5 (fun r2 z1 H locs hw h => ?_)
  refine lv_if_eq (tgt := 31) (pc := 8) C.1 C.2.1 dX8_may_8 (by decide) (fun c3 => ?_) (fun c3 => ?_)
  · have hw := hw.1 c3
    refine lv_iconst (v := -1) (pc := 31) C.1 C.2.1 dX8_may_31 (by decide) ?_
    exact rt_i (pc := 32) C hr hlk h hw dX8_may_32
  · have hw := hw.2 c3
    refine lv_iload_n (pc := 11) C.1 C.2.1 dX8_may_11 rfl (lv_at hl 2 rfl) ?_
    refine cl_si (pc := 12) (As := [.int b2]) (rest := []) C h (m_X8_isHour l D t a b2 z1 _ hw) mw_X8_isHour lm_X8_71 md_X8_isHour ⟨by decide, by decide⟩ ⟨Nat.zero_le _, Nat.zero_le _⟩ hl.1 rfl (Nat.le_of_ble_eq_true rfl) dX8_may_12 (fun r5 z4 H locs hw h => ?_)
    refine lv_if_eq (tgt := 31) (pc := 15) C.1 C.2.1 dX8_may_15 (by decide) (fun c6 => ?_) (fun c6 => ?_)
    · have hw := hw.1 c6
      refine lv_iconst (v := -1) (pc := 31) C.1 C.2.1 dX8_may_31 (by decide) ?_
      exact rt_i (pc := 32) C hr hlk h hw dX8_may_32
    · have hw := hw.2 c6
      refine lv_aload_n (pc := 18) C.1 C.2.1 dX8_may_18 rfl (lv_at hl 0 rfl) ?_
      refine GX_X8_28_0 (pc := 19) C h dX8_may_19 ?_
      refine GX_X8_156_13 (pc := 22) C h dX8_may_22 ?_
      refine lv_iload_n (pc := 25) C.1 C.2.1 dX8_may_25 rfl (lv_at hl 1 rfl) ?_
      refine ldX_19 (pc := 26) C h hw.1 dX8_may_26 ?_
      have hw := hw.2
      refine lv_iconst (v := 2) (pc := 27) C.1 C.2.1 dX8_may_27 (by decide) ?_
      refine lv_icmp_ne (tgt := 33) (pc := 28) C.1 C.2.1 dX8_may_28 (by decide) (fun c7 => ?_) (fun c7 => ?_)
      · have hw := hw.1 c7
        refine lv_aload_n (pc := 33) C.1 C.2.1 dX8_may_33 rfl (lv_at hl 0 rfl) ?_
        refine GX_X8_37_0 (pc := 34) C h dX8_may_34 ?_
        refine lv_iload_n (pc := 37) C.1 C.2.1 dX8_may_37 rfl (lv_at hl 1 rfl) ?_
        refine lv_iload_n (pc := 38) C.1 C.2.1 dX8_may_38 rfl (lv_at hl 2 rfl) ?_
        refine cl_vi (pc := 39) (As := [.int b1, .int b2]) (rest := []) C h (m_X2_mayBeginAsOpen l D t a b1 b2 z4 _ hw) mw_X2_mayBeginAsOpen lm_X8_165 md_X2_mayBeginAsOpen rcX_21 ⟨by decide, by decide⟩ ⟨Nat.zero_le _, Nat.zero_le _⟩ hl.1 rfl (Nat.le_of_ble_eq_true rfl) dX8_may_39 (fun r9 z8 H locs hw h => ?_)
        refine lv_if_eq (tgt := 49) (pc := 42) C.1 C.2.1 dX8_may_42 (by decide) (fun c10 => ?_) (fun c10 => ?_)
        · have hw := hw.1 c10
          refine lv_iconst (v := 0) (pc := 49) C.1 C.2.1 dX8_may_49 (by decide) ?_
          exact rt_i (pc := 50) C hr hlk h hw dX8_may_50
        · have hw := hw.2 c10
          refine lv_iconst (v := 1) (pc := 45) C.1 C.2.1 dX8_may_45 (by decide) ?_
          refine lv_goto (tgt := 50) (pc := 46) C.1 C.2.1 dX8_may_46 (by decide) ?_
          exact rt_i (pc := 50) C hr hlk h hw dX8_may_50
      · have hw := hw.2 c7
        refine lv_iconst (v := -1) (pc := 31) C.1 C.2.1 dX8_may_31 (by decide) ?_
        exact rt_i (pc := 32) C hr hlk h hw dX8_may_32

def wp_X8_put (b1 : Int32) (b2 : Int32) (z : St) (P : Int32 → St → Prop) : Prop :=
  (wp_X1_has b1 z (fun r2 z1 => (((¬ r2 = 0) → (vp_in b1 16 ∧ (((¬ (gF z1 19 b1.toNatClampNeg) = ((2 : Int32))) → (wp_X2_mayBeginAsOpen b1 b2 z1 (fun r6 z5 => (((¬ r6 = 0) → (wp_X1_reopen b1 z5 (fun z8 => (wp_X1_plan b1 b2 z8 (fun z10 => (wp_X8_accept ((0 : Int32)) z10 (fun r13 z12 => P r13 z12))))))) ∧ (r6 = 0 → (wp_X8_refuse ((-6 : Int32)) z5 (fun r15 z14 => P r15 z14))))))) ∧ ((gF z1 19 b1.toNatClampNeg) = ((2 : Int32)) → (wp_X8_refuse ((-3 : Int32)) z1 (fun r17 z16 => P r17 z16)))))) ∧ (r2 = 0 → (wp_X8_refuse ((-2 : Int32)) z1 (fun r19 z18 => P r19 z18))))))
set_option maxHeartbeats 4000000 in
set_option maxRecDepth 100000 in
theorem m_X8_put (l : Launch) (D : va_G) (t : Ty3) (a : Nat → Nat) (b1 : Int32) (b2 : Int32) (z : St) (P : Int32 → St → Prop) (hw : wp_X8_put b1 b2 z P) : CtI l D t yX8_put cX8_put 3 (some .int) 5 (wX t a) (wX t a z) [.ref (a 0), .int b1, .int b2] P := by
  refine ctI_of (by decide) (Nat.le_of_ble_eq_true rfl) ?_
  intro p e s m args below meth c A ls C hr hlk h hl
  have hl : lv_has ls 3 [(0, .ref (a 0)), (1, .int b1), (2, .int b2)] := hl
  unfold wp_X8_put at hw
  refine lv_aload_n (pc := 0) C.1 C.2.1 dX8_put_0 rfl (lv_at hl 0 rfl) ?_
  refine GX_X8_28_0 (pc := 1) C h dX8_put_1 ?_
  refine lv_iload_n (pc := 4) C.1 C.2.1 dX8_put_4 rfl (lv_at hl 1 rfl) ?_
  refine cl_vi (pc := 5) (As := [.int b1]) (rest := []) C h (m_X1_has l D t a b1 z _ hw) mw_X1_has lm_X8_143 md_X1_has rcX_13 ⟨by decide, by decide⟩ ⟨Nat.zero_le _, Nat.zero_le _⟩ hl.1 rfl (Nat.le_of_ble_eq_true rfl) dX8_put_5 (fun r2 z1 H locs hw h => ?_)
  refine lv_if_ne (tgt := 18) (pc := 8) C.1 C.2.1 dX8_put_8 (by decide) (fun c3 => ?_) (fun c3 => ?_)
  · have hw := hw.1 c3
    refine lv_aload_n (pc := 18) C.1 C.2.1 dX8_put_18 rfl (lv_at hl 0 rfl) ?_
    refine GX_X8_28_0 (pc := 19) C h dX8_put_19 ?_
    refine GX_X8_156_13 (pc := 22) C h dX8_put_22 ?_
    refine lv_iload_n (pc := 25) C.1 C.2.1 dX8_put_25 rfl (lv_at hl 1 rfl) ?_
    refine ldX_19 (pc := 26) C h hw.1 dX8_put_26 ?_
    have hw := hw.2
    refine lv_iconst (v := 2) (pc := 27) C.1 C.2.1 dX8_put_27 (by decide) ?_
    refine lv_icmp_ne (tgt := 38) (pc := 28) C.1 C.2.1 dX8_put_28 (by decide) (fun c4 => ?_) (fun c4 => ?_)
    · have hw := hw.1 c4
      refine lv_aload_n (pc := 38) C.1 C.2.1 dX8_put_38 rfl (lv_at hl 0 rfl) ?_
      refine GX_X8_37_0 (pc := 39) C h dX8_put_39 ?_
      refine lv_iload_n (pc := 42) C.1 C.2.1 dX8_put_42 rfl (lv_at hl 1 rfl) ?_
      refine lv_iload_n (pc := 43) C.1 C.2.1 dX8_put_43 rfl (lv_at hl 2 rfl) ?_
      refine cl_vi (pc := 44) (As := [.int b1, .int b2]) (rest := []) C h (m_X2_mayBeginAsOpen l D t a b1 b2 z1 _ hw) mw_X2_mayBeginAsOpen lm_X8_165 md_X2_mayBeginAsOpen rcX_21 ⟨by decide, by decide⟩ ⟨Nat.zero_le _, Nat.zero_le _⟩ hl.1 rfl (Nat.le_of_ble_eq_true rfl) dX8_put_44 (fun r6 z5 H locs hw h => ?_)
      refine lv_if_ne (tgt := 57) (pc := 47) C.1 C.2.1 dX8_put_47 (by decide) (fun c7 => ?_) (fun c7 => ?_)
      · have hw := hw.1 c7
        refine lv_aload_n (pc := 57) C.1 C.2.1 dX8_put_57 rfl (lv_at hl 0 rfl) ?_
        refine GX_X8_28_0 (pc := 58) C h dX8_put_58 ?_
        refine lv_iload_n (pc := 61) C.1 C.2.1 dX8_put_61 rfl (lv_at hl 1 rfl) ?_
        refine cl_vv (pc := 62) (As := [.int b1]) (rest := []) C h (m_X1_reopen l D t a b1 z5 _ hw) mw_X1_reopen lm_X8_168 md_X1_reopen rcX_13 ⟨by decide, by decide⟩ ⟨Nat.zero_le _, Nat.zero_le _⟩ hl.1 rfl (Nat.le_of_ble_eq_true rfl) dX8_put_62 (fun z8 H locs hw h => ?_)
        refine lv_aload_n (pc := 65) C.1 C.2.1 dX8_put_65 rfl (lv_at hl 0 rfl) ?_
        refine GX_X8_28_0 (pc := 66) C h dX8_put_66 ?_
        refine lv_iload_n (pc := 69) C.1 C.2.1 dX8_put_69 rfl (lv_at hl 1 rfl) ?_
        refine lv_iload_n (pc := 70) C.1 C.2.1 dX8_put_70 rfl (lv_at hl 2 rfl) ?_
        refine cl_vv (pc := 71) (As := [.int b1, .int b2]) (rest := []) C h (m_X1_plan l D t a b1 b2 z8 _ hw) mw_X1_plan lm_X8_172 md_X1_plan rcX_13 ⟨by decide, by decide⟩ ⟨Nat.zero_le _, Nat.zero_le _⟩ hl.1 rfl (Nat.le_of_ble_eq_true rfl) dX8_put_71 (fun z10 H locs hw h => ?_)
        refine lv_aload_n (pc := 74) C.1 C.2.1 dX8_put_74 rfl (lv_at hl 0 rfl) ?_
        refine lv_iconst (v := 0) (pc := 75) C.1 C.2.1 dX8_put_75 (by decide) ?_
        refine cl_vi (pc := 76) (As := [.int ((0 : Int32))]) (rest := []) C h (m_X8_accept l D t a ((0 : Int32)) z10 _ hw) mw_X8_accept lm_X8_99 md_X8_accept rcX_0 ⟨by decide, by decide⟩ ⟨Nat.zero_le _, Nat.zero_le _⟩ hl.1 rfl (Nat.le_of_ble_eq_true rfl) dX8_put_76 (fun r13 z12 H locs hw h => ?_)
        exact rt_i (pc := 79) C hr hlk h hw dX8_put_79
      · have hw := hw.2 c7
        refine lv_aload_n (pc := 50) C.1 C.2.1 dX8_put_50 rfl (lv_at hl 0 rfl) ?_
        refine lv_bipush (v := -6) (pc := 51) C.1 C.2.1 dX8_put_51 (by decide) ?_
        refine cl_vi (pc := 53) (As := [.int ((-6 : Int32))]) (rest := []) C h (m_X8_refuse l D t a ((-6 : Int32)) z5 _ hw) mw_X8_refuse lm_X8_81 md_X8_refuse rcX_0 ⟨by decide, by decide⟩ ⟨Nat.zero_le _, Nat.zero_le _⟩ hl.1 rfl (Nat.le_of_ble_eq_true rfl) dX8_put_53 (fun r15 z14 H locs hw h => ?_)
        exact rt_i (pc := 56) C hr hlk h hw dX8_put_56
    · have hw := hw.2 c4
      refine lv_aload_n (pc := 31) C.1 C.2.1 dX8_put_31 rfl (lv_at hl 0 rfl) ?_
      refine lv_bipush (v := -3) (pc := 32) C.1 C.2.1 dX8_put_32 (by decide) ?_
      refine cl_vi (pc := 34) (As := [.int ((-3 : Int32))]) (rest := []) C h (m_X8_refuse l D t a ((-3 : Int32)) z1 _ hw) mw_X8_refuse lm_X8_81 md_X8_refuse rcX_0 ⟨by decide, by decide⟩ ⟨Nat.zero_le _, Nat.zero_le _⟩ hl.1 rfl (Nat.le_of_ble_eq_true rfl) dX8_put_34 (fun r17 z16 H locs hw h => ?_)
      exact rt_i (pc := 37) C hr hlk h hw dX8_put_37
  · have hw := hw.2 c3
    refine lv_aload_n (pc := 11) C.1 C.2.1 dX8_put_11 rfl (lv_at hl 0 rfl) ?_
    refine lv_bipush (v := -2) (pc := 12) C.1 C.2.1 dX8_put_12 (by decide) ?_
    refine cl_vi (pc := 14) (As := [.int ((-2 : Int32))]) (rest := []) C h (m_X8_refuse l D t a ((-2 : Int32)) z1 _ hw) mw_X8_refuse lm_X8_81 md_X8_refuse rcX_0 ⟨by decide, by decide⟩ ⟨Nat.zero_le _, Nat.zero_le _⟩ hl.1 rfl (Nat.le_of_ble_eq_true rfl) dX8_put_14 (fun r19 z18 H locs hw h => ?_)
    exact rt_i (pc := 17) C hr hlk h hw dX8_put_17

def wp_X1_inState (b1 : Int32) (z : St) (P : Int32 → St → Prop) : Prop :=
  (∀ K3 : Int32 → Int32 → St → Prop, (∀ (v1 : Int32) (v2 : Int32) (z4 : St), ((((gI z4 1308) ≤ v2) → P v1 z4) ∧ (¬ ((gI z4 1308) ≤ v2) → (vp_in v2 16 ∧ (∀ K8 : Int32 → Int32 → St → Prop, (∀ (v6 : Int32) (v7 : Int32) (z9 : St), (∀ x10 : Int32, x10 = v7 + (1) → K3 v6 x10 z9) → K8 v6 v7 z9) → (((¬ (gF z4 19 v2.toNatClampNeg) = b1) → K8 v1 v2 z4) ∧ ((gF z4 19 v2.toNatClampNeg) = b1 → (∀ x12 : Int32, x12 = v1 + (1) → K8 x12 v2 z4))))))) → K3 v1 v2 z4) → K3 ((0 : Int32)) ((0 : Int32)) z)
set_option maxHeartbeats 4000000 in
set_option maxRecDepth 100000 in
theorem m_X1_inState (l : Launch) (D : va_G) (t : Ty3) (a : Nat → Nat) (b1 : Int32) (z : St) (P : Int32 → St → Prop) (hw : wp_X1_inState b1 z P) : CtI l D t yX1_inState cX1_inState 4 (some .int) 0 (wX t a) (wX t a z) [.ref (a 13), .int b1] P := by
  refine ctI_of (by decide) (Nat.le_of_ble_eq_true rfl) ?_
  intro p e s m args below meth c A ls C hr hlk h hl
  have hl : lv_has ls 4 [(0, .ref (a 13)), (1, .int b1)] := hl
  unfold wp_X1_inState at hw
  refine lv_iconst (v := 0) (pc := 0) C.1 C.2.1 dX1_inState_0 (by decide) ?_
  refine lv_istore_n (lv' := [(2, .int ((0 : Int32))), (0, .ref (a 13)), (1, .int b1)]) (pc := 1) C.1 C.2.1 dX1_inState_1 rfl hl (by decide) rfl (fun ls hl => ?_)
  refine lv_iconst (v := 0) (pc := 2) C.1 C.2.1 dX1_inState_2 (by decide) ?_
  have hw := hw (fun (v1 : Int32) (v2 : Int32) (z4 : St) => ∀ (H : Heap) (locs : List Loc) (ls : Array Slot), wd D t A s (wX t a z4) H locs → lv_has ls 4 [(0, .ref (a 13)), (1, .int b1), (2, .int v1), (3, .int v2)] → W p l e (rmd 0) s m args below meth c H locs 0 0 (QI D t A (wX t a) P below args s) (F0 m 4 ls [])) (by
      intro v1 v2 z4 hw H locs ls h hl
      refine lv_iload_n (pc := 4) C.1 C.2.1 dX1_inState_4 rfl (lv_at hl 3 rfl) ?_
      refine lv_aload_n (pc := 5) C.1 C.2.1 dX1_inState_5 rfl (lv_at hl 0 rfl) ?_
      refine GX_X1_37_13 (pc := 6) C h dX1_inState_6 ?_
      refine lv_icmp_ge (tgt := 31) (pc := 9) C.1 C.2.1 dX1_inState_9 (by decide) (fun c5 => ?_) (fun c5 => ?_)
      · have hw := hw.1 c5
        refine lv_iload_n (pc := 31) C.1 C.2.1 dX1_inState_31 rfl (lv_at hl 2 rfl) ?_
        exact rt_i (pc := 32) C hr hlk h hw dX1_inState_32
      · have hw := hw.2 c5
        refine lv_aload_n (pc := 12) C.1 C.2.1 dX1_inState_12 rfl (lv_at hl 0 rfl) ?_
        refine GX_X1_27_13 (pc := 13) C h dX1_inState_13 ?_
        refine lv_iload_n (pc := 16) C.1 C.2.1 dX1_inState_16 rfl (lv_at hl 3 rfl) ?_
        refine ldX_19 (pc := 17) C h hw.1 dX1_inState_17 ?_
        have hw := hw.2
        refine lv_iload_n (pc := 18) C.1 C.2.1 dX1_inState_18 rfl (lv_at hl 1 rfl) ?_
        have hw := hw (fun (v6 : Int32) (v7 : Int32) (z9 : St) => ∀ (H : Heap) (locs : List Loc) (ls : Array Slot), wd D t A s (wX t a z9) H locs → lv_has ls 4 [(0, .ref (a 13)), (1, .int b1), (2, .int v6), (3, .int v7)] → W p l e (rmd 0) s m args below meth c H locs 0 0 (QI D t A (wX t a) P below args s) (F0 m 25 ls [])) (by
            intro v6 v7 z9 hw H locs ls h hl
            obtain ⟨x10, ex10⟩ : ∃ y : Int32, y = v7 + (1) := ⟨_, rfl⟩
            have hw := hw x10 ex10
            refine lv_iinc (v := x10) (lv' := [(3, .int x10), (0, .ref (a 13)), (1, .int b1), (2, .int v6)]) (pc := 25) C.1 C.2.1 dX1_inState_25 hl (k := 3) rfl (by rw [ex10]; rfl) (by decide) rfl (fun ls hl => ?_)
            refine lv_goto (tgt := 4) (pc := 28) C.1 C.2.1 dX1_inState_28 (by decide) ?_
            exact hw _ _ _ h (lv_sub hl [1, 2, 3, 0] rfl))
        refine lv_icmp_ne (tgt := 25) (pc := 19) C.1 C.2.1 dX1_inState_19 (by decide) (fun c11 => ?_) (fun c11 => ?_)
        · have hw := hw.1 c11
          exact hw _ _ _ h (lv_sub hl [0, 1, 2, 3] rfl)
        · have hw := hw.2 c11
          obtain ⟨x12, ex12⟩ : ∃ y : Int32, y = v1 + (1) := ⟨_, rfl⟩
          have hw := hw x12 ex12
          refine lv_iinc (v := x12) (lv' := [(2, .int x12), (0, .ref (a 13)), (1, .int b1), (3, .int v2)]) (pc := 22) C.1 C.2.1 dX1_inState_22 hl (k := 2) rfl (by rw [ex12]; rfl) (by decide) rfl (fun ls hl => ?_)
          exact hw _ _ _ h (lv_sub hl [1, 2, 0, 3] rfl))
  refine lv_istore_n (lv' := [(3, .int ((0 : Int32))), (2, .int ((0 : Int32))), (0, .ref (a 13)), (1, .int b1)]) (pc := 3) C.1 C.2.1 dX1_inState_3 rfl hl (by decide) rfl (fun ls hl => ?_)
  exact hw _ _ _ h (lv_sub hl [2, 3, 1, 0] rfl)

def wp_X1_costFrom_5 (b1 : Int32) (b2 : Int32) (z : St) (P : Int64 → St → Prop) : Prop :=
  (∀ K3 : Int64 → Int32 → St → Prop, (∀ (v1 : Int64) (v2 : Int32) (z4 : St), (vp_in b1 16 ∧ ((((gF z4 17 b1.toNatClampNeg) ≤ v2) → P v1 z4) ∧ (¬ ((gF z4 17 b1.toNatClampNeg) ≤ v2) → (((((168 : Int32)) ≤ (b2 + v2)) → P v1 z4) ∧ (¬ (((168 : Int32)) ≤ (b2 + v2)) → (vp_in ((b1 * ((4 : Int32))) + v2) 64 ∧ (vp_in (b2 + v2) 168 ∧ (∀ x7 : Int64, x7 = v1 + (Int32.toInt64 ((gF z4 18 ((b1 * ((4 : Int32))) + v2).toNatClampNeg) * (gF z4 5 (b2 + v2).toNatClampNeg))) → (∀ x8 : Int32, x8 = v2 + (1) → K3 x7 x8 z4))))))))) → K3 v1 v2 z4) → K3 ((0 : Int64)) ((0 : Int32)) z)
set_option maxHeartbeats 4000000 in
set_option maxRecDepth 100000 in
theorem m_X1_costFrom_5 (l : Launch) (D : va_G) (t : Ty3) (a : Nat → Nat) (b1 : Int32) (b2 : Int32) (z : St) (P : Int64 → St → Prop) (hw : wp_X1_costFrom_5 b1 b2 z P) : CtL l D t yX1_costFrom cX1_costFrom 7 (some .long) 0 (wX t a) (wX t a z) [.ref (a 13), .int b1, .int b2, .ref (a 5)] P := by
  refine ctL_of (by decide) (Nat.le_of_ble_eq_true rfl) ?_
  intro p e s m args below meth c A ls C hr hlk h hl
  have hl : lv_has ls 7 [(0, .ref (a 13)), (1, .int b1), (2, .int b2), (3, .ref (a 5))] := hl
  unfold wp_X1_costFrom_5 at hw
  refine lv_lconst (v := 0) (pc := 0) C.1 C.2.1 dX1_costFrom_0 (by decide) ?_
  refine lv_lstore (lv' := [(4, .long ((0 : Int64))), (0, .ref (a 13)), (1, .int b1), (2, .int b2), (3, .ref (a 5))]) (pc := 1) C.1 C.2.1 dX1_costFrom_1 hl (by decide) rfl (fun ls hl => ?_)
  refine lv_iconst (v := 0) (pc := 3) C.1 C.2.1 dX1_costFrom_3 (by decide) ?_
  have hw := hw (fun (v1 : Int64) (v2 : Int32) (z4 : St) => ∀ (H : Heap) (locs : List Loc) (ls : Array Slot), wd D t A s (wX t a z4) H locs → lv_has ls 7 [(0, .ref (a 13)), (1, .int b1), (2, .int b2), (3, .ref (a 5)), (4, .long v1), (6, .int v2)] → W p l e (rmd 0) s m args below meth c H locs 0 0 (QL D t A (wX t a) P below args s) (F0 m 6 ls [])) (by
      intro v1 v2 z4 hw H locs ls h hl
      refine lv_iload (pc := 6) C.1 C.2.1 dX1_costFrom_6 (lv_at hl 5 rfl) ?_
      refine lv_aload_n (pc := 8) C.1 C.2.1 dX1_costFrom_8 rfl (lv_at hl 0 rfl) ?_
      refine GX_X1_21_13 (pc := 9) C h dX1_costFrom_9 ?_
      refine lv_iload_n (pc := 12) C.1 C.2.1 dX1_costFrom_12 rfl (lv_at hl 1 rfl) ?_
      refine ldX_17 (pc := 13) C h hw.1 dX1_costFrom_13 ?_
      have hw := hw.2
      refine lv_icmp_ge (tgt := 57) (pc := 14) C.1 C.2.1 dX1_costFrom_14 (by decide) (fun c5 => ?_) (fun c5 => ?_)
      · have hw := hw.1 c5
        refine lv_lload (pc := 57) C.1 C.2.1 dX1_costFrom_57 (lv_at hl 4 rfl) ?_
        exact rt_l (pc := 59) C hr hlk h hw dX1_costFrom_59
      · have hw := hw.2 c5
        refine lv_iload_n (pc := 17) C.1 C.2.1 dX1_costFrom_17 rfl (lv_at hl 2 rfl) ?_
        refine lv_iload (pc := 18) C.1 C.2.1 dX1_costFrom_18 (lv_at hl 5 rfl) ?_
        refine lv_iadd (pc := 20) C.1 C.2.1 dX1_costFrom_20 ?_
        refine lv_sipush (v := 168) (pc := 21) C.1 C.2.1 dX1_costFrom_21 (by decide) ?_
        refine lv_icmp_ge (tgt := 57) (pc := 24) C.1 C.2.1 dX1_costFrom_24 (by decide) (fun c6 => ?_) (fun c6 => ?_)
        · have hw := hw.1 c6
          refine lv_lload (pc := 57) C.1 C.2.1 dX1_costFrom_57 (lv_at hl 4 rfl) ?_
          exact rt_l (pc := 59) C hr hlk h hw dX1_costFrom_59
        · have hw := hw.2 c6
          refine lv_lload (pc := 27) C.1 C.2.1 dX1_costFrom_27 (lv_at hl 4 rfl) ?_
          refine lv_aload_n (pc := 29) C.1 C.2.1 dX1_costFrom_29 rfl (lv_at hl 0 rfl) ?_
          refine GX_X1_24_13 (pc := 30) C h dX1_costFrom_30 ?_
          refine lv_iload_n (pc := 33) C.1 C.2.1 dX1_costFrom_33 rfl (lv_at hl 1 rfl) ?_
          refine lv_iconst (v := 4) (pc := 34) C.1 C.2.1 dX1_costFrom_34 (by decide) ?_
          refine lv_imul (pc := 35) C.1 C.2.1 dX1_costFrom_35 ?_
          refine lv_iload (pc := 36) C.1 C.2.1 dX1_costFrom_36 (lv_at hl 5 rfl) ?_
          refine lv_iadd (pc := 38) C.1 C.2.1 dX1_costFrom_38 ?_
          refine ldX_18 (pc := 39) C h hw.1 dX1_costFrom_39 ?_
          have hw := hw.2
          refine lv_aload_n (pc := 40) C.1 C.2.1 dX1_costFrom_40 rfl (lv_at hl 3 rfl) ?_
          refine lv_iload_n (pc := 41) C.1 C.2.1 dX1_costFrom_41 rfl (lv_at hl 2 rfl) ?_
          refine lv_iload (pc := 42) C.1 C.2.1 dX1_costFrom_42 (lv_at hl 5 rfl) ?_
          refine lv_iadd (pc := 44) C.1 C.2.1 dX1_costFrom_44 ?_
          refine ldX_5 (pc := 45) C h hw.1 dX1_costFrom_45 ?_
          have hw := hw.2
          refine lv_imul (pc := 46) C.1 C.2.1 dX1_costFrom_46 ?_
          refine lv_i2l (pc := 47) C.1 C.2.1 dX1_costFrom_47 rfl ?_
          refine lv_ladd (pc := 48) C.1 C.2.1 dX1_costFrom_48 ?_
          refine lv_topl (fun x7 ex7 => ?_)
          have hw := hw x7 ex7
          refine lv_lstore (lv' := [(4, .long x7), (0, .ref (a 13)), (1, .int b1), (2, .int b2), (3, .ref (a 5)), (6, .int v2)]) (pc := 49) C.1 C.2.1 dX1_costFrom_49 hl (by decide) rfl (fun ls hl => ?_)
          obtain ⟨x8, ex8⟩ : ∃ y : Int32, y = v2 + (1) := ⟨_, rfl⟩
          have hw := hw x8 ex8
          refine lv_iinc (v := x8) (lv' := [(6, .int x8), (4, .long x7), (0, .ref (a 13)), (1, .int b1), (2, .int b2), (3, .ref (a 5))]) (pc := 51) C.1 C.2.1 dX1_costFrom_51 hl (k := 5) rfl (by rw [ex8]; rfl) (by decide) rfl (fun ls hl => ?_)
          refine lv_goto (tgt := 6) (pc := 54) C.1 C.2.1 dX1_costFrom_54 (by decide) ?_
          exact hw _ _ _ h (lv_sub hl [2, 3, 4, 5, 1, 0] rfl))
  refine lv_istore (lv' := [(6, .int ((0 : Int32))), (4, .long ((0 : Int64))), (0, .ref (a 13)), (1, .int b1), (2, .int b2), (3, .ref (a 5))]) (pc := 4) C.1 C.2.1 dX1_costFrom_4 hl (by decide) rfl (fun ls hl => ?_)
  exact hw _ _ _ h (lv_sub hl [2, 3, 4, 5, 1, 0] rfl)

def wp_X2_cheapestHour (b1 : Int32) (z : St) (P : Int32 → St → Prop) : Prop :=
  (vp_in b1 16 ∧ (∀ K4 : Int32 → Int64 → Int32 → St → Prop, (∀ (v1 : Int32) (v2 : Int64) (v3 : Int32) (z5 : St), (vp_in b1 16 ∧ ((((gF z5 16 b1.toNatClampNeg) < v3) → P v1 z5) ∧ (¬ ((gF z5 16 b1.toNatClampNeg) < v3) → (wp_X2_mayBegin b1 v3 z5 (fun r8 z7 => (∀ K12 : Int32 → Int64 → Int32 → St → Prop, (∀ (v9 : Int32) (v10 : Int64) (v11 : Int32) (z13 : St), (∀ x14 : Int32, x14 = v11 + (1) → K4 v9 v10 x14 z13) → K12 v9 v10 v11 z13) → (((r8 = 0) → K12 v1 v2 v3 z7) ∧ (¬ (r8 = 0) → (wp_X1_costFrom_5 b1 v3 z7 (fun r17 z16 => (((0 ≤ (lg_cmp r17 v2)) → K12 v1 v2 v3 z16) ∧ (¬ (0 ≤ (lg_cmp r17 v2)) → K12 v3 r17 v3 z16)))))))))))) → K4 v1 v2 v3 z5) → (∀ x19 : Int32, x19 = gF z 15 b1.toNatClampNeg → K4 ((-1 : Int32)) ((1000000000000000000 : Int64)) x19 z)))
set_option maxHeartbeats 4000000 in
set_option maxRecDepth 100000 in
theorem m_X2_cheapestHour (l : Launch) (D : va_G) (t : Ty3) (a : Nat → Nat) (b1 : Int32) (z : St) (P : Int32 → St → Prop) (hw : wp_X2_cheapestHour b1 z P) : CtI l D t yX2_cheapestHour cX2_cheapestHour 8 (some .int) 4 (wX t a) (wX t a z) [.ref (a 21), .int b1] P := by
  refine ctI_of (by decide) (Nat.le_of_ble_eq_true rfl) ?_
  intro p e s m args below meth c A ls C hr hlk h hl
  have hl : lv_has ls 8 [(0, .ref (a 21)), (1, .int b1)] := hl
  unfold wp_X2_cheapestHour at hw
  refine lv_iconst (v := -1) (pc := 0) C.1 C.2.1 dX2_cheapestHour_0 (by decide) ?_
  refine lv_istore_n (lv' := [(2, .int ((-1 : Int32))), (0, .ref (a 21)), (1, .int b1)]) (pc := 1) C.1 C.2.1 dX2_cheapestHour_1 rfl hl (by decide) rfl (fun ls hl => ?_)
  refine lv_ldc2 (pc := 2) C.1 C.2.1 C.2.2.2.1 (C.2.2.2.2 _ lc_X2_102) dX2_cheapestHour_2 ?_
  refine lv_lstore_n (lv' := [(3, .long ((1000000000000000000 : Int64))), (2, .int ((-1 : Int32))), (0, .ref (a 21)), (1, .int b1)]) (pc := 5) C.1 C.2.1 dX2_cheapestHour_5 rfl hl (by decide) rfl (fun ls hl => ?_)
  refine lv_aload_n (pc := 6) C.1 C.2.1 dX2_cheapestHour_6 rfl (lv_at hl 2 rfl) ?_
  refine GX_X2_15_21 (pc := 7) C h dX2_cheapestHour_7 ?_
  refine GX_X2_60_13 (pc := 10) C h dX2_cheapestHour_10 ?_
  refine lv_iload_n (pc := 13) C.1 C.2.1 dX2_cheapestHour_13 rfl (lv_at hl 3 rfl) ?_
  refine ldX_15 (pc := 14) C h hw.1 dX2_cheapestHour_14 ?_
  have hw := hw.2
  have hw := hw (fun (v1 : Int32) (v2 : Int64) (v3 : Int32) (z5 : St) => ∀ (H : Heap) (locs : List Loc) (ls : Array Slot), wd D t A s (wX t a z5) H locs → lv_has ls 8 [(0, .ref (a 21)), (1, .int b1), (2, .int v1), (3, .long v2), (5, .int v3)] → W p l e (rmd 4) s m args below meth c H locs 0 0 (QI D t A (wX t a) P below args s) (F0 m 17 ls [])) (by
      intro v1 v2 v3 z5 hw H locs ls h hl
      refine lv_iload (pc := 17) C.1 C.2.1 dX2_cheapestHour_17 (lv_at hl 4 rfl) ?_
      refine lv_aload_n (pc := 19) C.1 C.2.1 dX2_cheapestHour_19 rfl (lv_at hl 0 rfl) ?_
      refine GX_X2_15_21 (pc := 20) C h dX2_cheapestHour_20 ?_
      refine GX_X2_63_13 (pc := 23) C h dX2_cheapestHour_23 ?_
      refine lv_iload_n (pc := 26) C.1 C.2.1 dX2_cheapestHour_26 rfl (lv_at hl 1 rfl) ?_
      refine ldX_16 (pc := 27) C h hw.1 dX2_cheapestHour_27 ?_
      have hw := hw.2
      refine lv_icmp_gt (tgt := 79) (pc := 28) C.1 C.2.1 dX2_cheapestHour_28 (by decide) (fun c6 => ?_) (fun c6 => ?_)
      · have hw := hw.1 c6
        refine lv_iload_n (pc := 79) C.1 C.2.1 dX2_cheapestHour_79 rfl (lv_at hl 2 rfl) ?_
        exact rt_i (pc := 80) C hr hlk h hw dX2_cheapestHour_80
      · have hw := hw.2 c6
        refine lv_aload_n (pc := 31) C.1 C.2.1 dX2_cheapestHour_31 rfl (lv_at hl 0 rfl) ?_
        refine lv_iload_n (pc := 32) C.1 C.2.1 dX2_cheapestHour_32 rfl (lv_at hl 1 rfl) ?_
        refine lv_iload (pc := 33) C.1 C.2.1 dX2_cheapestHour_33 (lv_at hl 4 rfl) ?_
        refine cl_vi (pc := 35) (As := [.int b1, .int v3]) (rest := []) C h (m_X2_mayBegin l D t a b1 v3 z5 _ hw) mw_X2_mayBegin lm_X2_49 md_X2_mayBegin rcX_21 ⟨by decide, by decide⟩ ⟨Nat.zero_le _, Nat.zero_le _⟩ hl.1 rfl (Nat.le_of_ble_eq_true rfl) dX2_cheapestHour_35 (fun r8 z7 H locs hw h => ?_)
        have hw := hw (fun (v9 : Int32) (v10 : Int64) (v11 : Int32) (z13 : St) => ∀ (H : Heap) (locs : List Loc) (ls : Array Slot), wd D t A s (wX t a z13) H locs → lv_has ls 8 [(0, .ref (a 21)), (1, .int b1), (2, .int v9), (3, .long v10), (5, .int v11)] → W p l e (rmd 4) s m args below meth c H locs 0 0 (QI D t A (wX t a) P below args s) (F0 m 73 ls [])) (by
            intro v9 v10 v11 z13 hw H locs ls h hl
            obtain ⟨x14, ex14⟩ : ∃ y : Int32, y = v11 + (1) := ⟨_, rfl⟩
            have hw := hw x14 ex14
            refine lv_iinc (v := x14) (lv' := [(5, .int x14), (0, .ref (a 21)), (1, .int b1), (2, .int v9), (3, .long v10)]) (pc := 73) C.1 C.2.1 dX2_cheapestHour_73 hl (k := 4) rfl (by rw [ex14]; rfl) (by decide) rfl (fun ls hl => ?_)
            refine lv_goto (tgt := 17) (pc := 76) C.1 C.2.1 dX2_cheapestHour_76 (by decide) ?_
            exact hw _ _ _ h (lv_sub hl [1, 2, 3, 4, 0] rfl))
        refine lv_if_eq (tgt := 73) (pc := 38) C.1 C.2.1 dX2_cheapestHour_38 (by decide) (fun c15 => ?_) (fun c15 => ?_)
        · have hw := hw.1 c15
          exact hw _ _ _ h (lv_sub hl [0, 1, 2, 3, 4] rfl)
        · have hw := hw.2 c15
          refine lv_aload_n (pc := 41) C.1 C.2.1 dX2_cheapestHour_41 rfl (lv_at hl 0 rfl) ?_
          refine GX_X2_15_21 (pc := 42) C h dX2_cheapestHour_42 ?_
          refine lv_iload_n (pc := 45) C.1 C.2.1 dX2_cheapestHour_45 rfl (lv_at hl 1 rfl) ?_
          refine lv_iload (pc := 46) C.1 C.2.1 dX2_cheapestHour_46 (lv_at hl 4 rfl) ?_
          refine lv_aload_n (pc := 48) C.1 C.2.1 dX2_cheapestHour_48 rfl (lv_at hl 0 rfl) ?_
          refine GX_X2_9_21 (pc := 49) C h dX2_cheapestHour_49 ?_
          refine GX_X2_72_1 (pc := 52) C h dX2_cheapestHour_52 ?_
          refine cl_vl (pc := 55) (As := [.int b1, .int v3, .ref (a 5)]) (rest := []) C h (m_X1_costFrom_5 l D t a b1 v3 z7 _ hw) mw_X1_costFrom lm_X2_104 md_X1_costFrom rcX_13 ⟨by decide, by decide⟩ ⟨Nat.zero_le _, Nat.zero_le _⟩ hl.1 rfl (Nat.le_of_ble_eq_true rfl) dX2_cheapestHour_55 (fun r17 z16 H locs hw h => ?_)
          refine lv_lstore (lv' := [(6, .long r17), (0, .ref (a 21)), (1, .int b1), (2, .int v1), (3, .long v2), (5, .int v3)]) (pc := 58) C.1 C.2.1 dX2_cheapestHour_58 hl (by decide) rfl (fun ls hl => ?_)
          refine lv_lload (pc := 60) C.1 C.2.1 dX2_cheapestHour_60 (lv_at hl 0 rfl) ?_
          refine lv_lload_n (pc := 62) C.1 C.2.1 dX2_cheapestHour_62 rfl (lv_at hl 4 rfl) ?_
          refine W.lcmp (pc := 63) C.1 C.2.1 dX2_cheapestHour_63 ?_
          refine lv_if_ge (tgt := 73) (pc := 64) C.1 C.2.1 dX2_cheapestHour_64 (by decide) (fun c18 => ?_) (fun c18 => ?_)
          · have hw := hw.1 c18
            exact hw _ _ _ h (lv_sub hl [1, 2, 3, 4, 5] rfl)
          · have hw := hw.2 c18
            refine lv_lload (pc := 67) C.1 C.2.1 dX2_cheapestHour_67 (lv_at hl 0 rfl) ?_
            refine lv_lstore_n (lv' := [(3, .long r17), (6, .long r17), (0, .ref (a 21)), (1, .int b1), (2, .int v1), (5, .int v3)]) (pc := 69) C.1 C.2.1 dX2_cheapestHour_69 rfl hl (by decide) rfl (fun ls hl => ?_)
            refine lv_iload (pc := 70) C.1 C.2.1 dX2_cheapestHour_70 (lv_at hl 5 rfl) ?_
            refine lv_istore_n (lv' := [(2, .int v3), (3, .long r17), (6, .long r17), (0, .ref (a 21)), (1, .int b1), (5, .int v3)]) (pc := 72) C.1 C.2.1 dX2_cheapestHour_72 rfl hl (by decide) rfl (fun ls hl => ?_)
            exact hw _ _ _ h (lv_sub hl [3, 4, 0, 1, 5] rfl))
  refine lv_topi (fun x19 ex19 => ?_)
  have hw := hw x19 ex19
  refine lv_istore (lv' := [(5, .int x19), (3, .long ((1000000000000000000 : Int64))), (2, .int ((-1 : Int32))), (0, .ref (a 21)), (1, .int b1)]) (pc := 15) C.1 C.2.1 dX2_cheapestHour_15 hl (by decide) rfl (fun ls hl => ?_)
  exact hw _ _ _ h (lv_sub hl [3, 4, 2, 1, 0] rfl)

def wp_X2_planOneByOne  (z : St) (P : Int32 → St → Prop) : Prop :=
  (∀ K2 : Int32 → St → Prop, (∀ (v1 : Int32) (z3 : St), ((((gI z3 1308) ≤ v1) → (∀ K6 : Int32 → St → Prop, (∀ (v5 : Int32) (z7 : St), ((((gI z7 1308) ≤ v5) → (wp_X1_inState ((0 : Int32)) z7 (fun r10 z9 => P r10 z9))) ∧ (¬ ((gI z7 1308) ≤ v5) → (vp_in v5 16 ∧ (∀ K13 : Int32 → Int32 → St → Prop, (∀ (v11 : Int32) (s12 : Int32) (z14 : St), (∀ K16 : Int32 → St → Prop, (∀ (v15 : Int32) (z17 : St), (∀ x18 : Int32, x18 = v15 + (1) → K6 x18 z17) → K16 v15 z17) → (((s12 = ((-1 : Int32))) → K16 v11 z14) ∧ (¬ (s12 = ((-1 : Int32))) → (wp_X1_plan v11 s12 z14 (fun z20 => K16 v11 z20))))) → K13 v11 s12 z14) → (((¬ (gF z7 19 v5.toNatClampNeg) = 0) → K13 v5 ((-1 : Int32)) z7) ∧ ((gF z7 19 v5.toNatClampNeg) = 0 → (wp_X2_cheapestHour v5 z7 (fun r24 z23 => K13 v5 r24 z23)))))))) → K6 v5 z7) → K6 ((0 : Int32)) z3)) ∧ (¬ ((gI z3 1308) ≤ v1) → (wp_X1_reopen v1 z3 (fun z25 => (∀ x27 : Int32, x27 = v1 + (1) → K2 x27 z25))))) → K2 v1 z3) → K2 ((0 : Int32)) z)
set_option maxHeartbeats 4000000 in
set_option maxRecDepth 100000 in
theorem m_X2_planOneByOne (l : Launch) (D : va_G) (t : Ty3) (a : Nat → Nat)  (z : St) (P : Int32 → St → Prop) (hw : wp_X2_planOneByOne z P) : CtI l D t yX2_planOneByOne cX2_planOneByOne 3 (some .int) 5 (wX t a) (wX t a z) [.ref (a 21)] P := by
  refine ctI_of (by decide) (Nat.le_of_ble_eq_true rfl) ?_
  intro p e s m args below meth c A ls C hr hlk h hl
  have hl : lv_has ls 3 [(0, .ref (a 21))] := hl
  unfold wp_X2_planOneByOne at hw
  refine lv_iconst (v := 0) (pc := 0) C.1 C.2.1 dX2_planOneByOne_0 (by decide) ?_
  have hw := hw (fun (v1 : Int32) (z3 : St) => ∀ (H : Heap) (locs : List Loc) (ls : Array Slot), wd D t A s (wX t a z3) H locs → lv_has ls 3 [(0, .ref (a 21)), (1, .int v1)] → W p l e (rmd 5) s m args below meth c H locs 0 0 (QI D t A (wX t a) P below args s) (F0 m 2 ls [])) (by
      intro v1 z3 hw H locs ls h hl
      refine lv_iload_n (pc := 2) C.1 C.2.1 dX2_planOneByOne_2 rfl (lv_at hl 1 rfl) ?_
      refine lv_aload_n (pc := 3) C.1 C.2.1 dX2_planOneByOne_3 rfl (lv_at hl 0 rfl) ?_
      refine GX_X2_15_21 (pc := 4) C h dX2_planOneByOne_4 ?_
      refine GX_X2_86_13 (pc := 7) C h dX2_planOneByOne_7 ?_
      refine lv_icmp_ge (tgt := 27) (pc := 10) C.1 C.2.1 dX2_planOneByOne_10 (by decide) (fun c4 => ?_) (fun c4 => ?_)
      · have hw := hw.1 c4
        refine lv_iconst (v := 0) (pc := 27) C.1 C.2.1 dX2_planOneByOne_27 (by decide) ?_
        have hw := hw (fun (v5 : Int32) (z7 : St) => ∀ (H : Heap) (locs : List Loc) (ls : Array Slot), wd D t A s (wX t a z7) H locs → lv_has ls 3 [(0, .ref (a 21)), (1, .int v5)] → W p l e (rmd 5) s m args below meth c H locs 0 0 (QI D t A (wX t a) P below args s) (F0 m 29 ls [])) (by
            intro v5 z7 hw H locs ls h hl
            refine lv_iload_n (pc := 29) C.1 C.2.1 dX2_planOneByOne_29 rfl (lv_at hl 1 rfl) ?_
            refine lv_aload_n (pc := 30) C.1 C.2.1 dX2_planOneByOne_30 rfl (lv_at hl 0 rfl) ?_
            refine GX_X2_15_21 (pc := 31) C h dX2_planOneByOne_31 ?_
            refine GX_X2_86_13 (pc := 34) C h dX2_planOneByOne_34 ?_
            refine lv_icmp_ge (tgt := 82) (pc := 37) C.1 C.2.1 dX2_planOneByOne_37 (by decide) (fun c8 => ?_) (fun c8 => ?_)
            · have hw := hw.1 c8
              refine lv_aload_n (pc := 82) C.1 C.2.1 dX2_planOneByOne_82 rfl (lv_at hl 0 rfl) ?_
              refine GX_X2_15_21 (pc := 83) C h dX2_planOneByOne_83 ?_
              refine lv_iconst (v := 0) (pc := 86) C.1 C.2.1 dX2_planOneByOne_86 (by decide) ?_
              refine cl_vi (pc := 87) (As := [.int ((0 : Int32))]) (rest := []) C h (m_X1_inState l D t a ((0 : Int32)) z7 _ hw) mw_X1_inState lm_X2_99 md_X1_inState rcX_13 ⟨by decide, by decide⟩ ⟨Nat.zero_le _, Nat.zero_le _⟩ hl.1 rfl (Nat.le_of_ble_eq_true rfl) dX2_planOneByOne_87 (fun r10 z9 H locs hw h => ?_)
              exact rt_i (pc := 90) C hr hlk h hw dX2_planOneByOne_90
            · have hw := hw.2 c8
              refine lv_aload_n (pc := 40) C.1 C.2.1 dX2_planOneByOne_40 rfl (lv_at hl 0 rfl) ?_
              refine GX_X2_15_21 (pc := 41) C h dX2_planOneByOne_41 ?_
              refine GX_X2_89_13 (pc := 44) C h dX2_planOneByOne_44 ?_
              refine lv_iload_n (pc := 47) C.1 C.2.1 dX2_planOneByOne_47 rfl (lv_at hl 1 rfl) ?_
              refine ldX_19 (pc := 48) C h hw.1 dX2_planOneByOne_48 ?_
              have hw := hw.2
              have hw := hw (fun (v11 : Int32) (s12 : Int32) (z14 : St) => ∀ (H : Heap) (locs : List Loc) (ls : Array Slot), wd D t A s (wX t a z14) H locs → lv_has ls 3 [(0, .ref (a 21)), (1, .int v11)] → W p l e (rmd 5) s m args below meth c H locs 0 0 (QI D t A (wX t a) P below args s) (F0 m 61 ls [.int s12])) (by
                  intro v11 s12 z14 hw H locs ls h hl
                  refine lv_istore_n (lv' := [(2, .int s12), (0, .ref (a 21)), (1, .int v11)]) (pc := 61) C.1 C.2.1 dX2_planOneByOne_61 rfl hl (by decide) rfl (fun ls hl => ?_)
                  refine lv_iload_n (pc := 62) C.1 C.2.1 dX2_planOneByOne_62 rfl (lv_at hl 0 rfl) ?_
                  refine lv_iconst (v := -1) (pc := 63) C.1 C.2.1 dX2_planOneByOne_63 (by decide) ?_
                  have hw := hw (fun (v15 : Int32) (z17 : St) => ∀ (H : Heap) (locs : List Loc) (ls : Array Slot), wd D t A s (wX t a z17) H locs → lv_has ls 3 [(0, .ref (a 21)), (1, .int v15)] → W p l e (rmd 5) s m args below meth c H locs 0 0 (QI D t A (wX t a) P below args s) (F0 m 76 ls [])) (by
                      intro v15 z17 hw H locs ls h hl
                      obtain ⟨x18, ex18⟩ : ∃ y : Int32, y = v15 + (1) := ⟨_, rfl⟩
                      have hw := hw x18 ex18
                      refine lv_iinc (v := x18) (lv' := [(1, .int x18), (0, .ref (a 21))]) (pc := 76) C.1 C.2.1 dX2_planOneByOne_76 hl (k := 1) rfl (by rw [ex18]; rfl) (by decide) rfl (fun ls hl => ?_)
                      refine lv_goto (tgt := 29) (pc := 79) C.1 C.2.1 dX2_planOneByOne_79 (by decide) ?_
                      exact hw _ _ _ h (lv_sub hl [1, 0] rfl))
                  refine lv_icmp_eq (tgt := 76) (pc := 64) C.1 C.2.1 dX2_planOneByOne_64 (by decide) (fun c19 => ?_) (fun c19 => ?_)
                  · have hw := hw.1 c19
                    exact hw _ _ _ h (lv_sub hl [1, 2] rfl)
                  · have hw := hw.2 c19
                    refine lv_aload_n (pc := 67) C.1 C.2.1 dX2_planOneByOne_67 rfl (lv_at hl 1 rfl) ?_
                    refine GX_X2_15_21 (pc := 68) C h dX2_planOneByOne_68 ?_
                    refine lv_iload_n (pc := 71) C.1 C.2.1 dX2_planOneByOne_71 rfl (lv_at hl 2 rfl) ?_
                    refine lv_iload_n (pc := 72) C.1 C.2.1 dX2_planOneByOne_72 rfl (lv_at hl 0 rfl) ?_
                    refine cl_vv (pc := 73) (As := [.int v11, .int s12]) (rest := []) C h (m_X1_plan l D t a v11 s12 z14 _ hw) mw_X1_plan lm_X2_53 md_X1_plan rcX_13 ⟨by decide, by decide⟩ ⟨Nat.zero_le _, Nat.zero_le _⟩ hl.1 rfl (Nat.le_of_ble_eq_true rfl) dX2_planOneByOne_73 (fun z20 H locs hw h => ?_)
                    exact hw _ _ _ h (lv_sub hl [1, 2] rfl))
              refine lv_if_ne (tgt := 60) (pc := 49) C.1 C.2.1 dX2_planOneByOne_49 (by decide) (fun c22 => ?_) (fun c22 => ?_)
              · have hw := hw.1 c22
                refine lv_iconst (v := -1) (pc := 60) C.1 C.2.1 dX2_planOneByOne_60 (by decide) ?_
                exact hw _ _ _ h (lv_sub hl [0, 1] rfl)
              · have hw := hw.2 c22
                refine lv_aload_n (pc := 52) C.1 C.2.1 dX2_planOneByOne_52 rfl (lv_at hl 0 rfl) ?_
                refine lv_iload_n (pc := 53) C.1 C.2.1 dX2_planOneByOne_53 rfl (lv_at hl 1 rfl) ?_
                refine cl_vi (pc := 54) (As := [.int v5]) (rest := []) C h (m_X2_cheapestHour l D t a v5 z7 _ hw) mw_X2_cheapestHour lm_X2_95 md_X2_cheapestHour rcX_21 ⟨by decide, by decide⟩ ⟨Nat.zero_le _, Nat.zero_le _⟩ hl.1 rfl (Nat.le_of_ble_eq_true rfl) dX2_planOneByOne_54 (fun r24 z23 H locs hw h => ?_)
                refine lv_goto (tgt := 61) (pc := 57) C.1 C.2.1 dX2_planOneByOne_57 (by decide) ?_
                exact hw _ _ _ h (lv_sub hl [0, 1] rfl))
        refine lv_istore_n (lv' := [(1, .int ((0 : Int32))), (0, .ref (a 21))]) (pc := 28) C.1 C.2.1 dX2_planOneByOne_28 rfl hl (by decide) rfl (fun ls hl => ?_)
        exact hw _ _ _ h (lv_sub hl [1, 0] rfl)
      · have hw := hw.2 c4
        refine lv_aload_n (pc := 13) C.1 C.2.1 dX2_planOneByOne_13 rfl (lv_at hl 0 rfl) ?_
        refine GX_X2_15_21 (pc := 14) C h dX2_planOneByOne_14 ?_
        refine lv_iload_n (pc := 17) C.1 C.2.1 dX2_planOneByOne_17 rfl (lv_at hl 1 rfl) ?_
        refine cl_vv (pc := 18) (As := [.int v1]) (rest := []) C h (m_X1_reopen l D t a v1 z3 _ hw) mw_X1_reopen lm_X2_45 md_X1_reopen rcX_13 ⟨by decide, by decide⟩ ⟨Nat.zero_le _, Nat.zero_le _⟩ hl.1 rfl (Nat.le_of_ble_eq_true rfl) dX2_planOneByOne_18 (fun z25 H locs hw h => ?_)
        obtain ⟨x27, ex27⟩ : ∃ y : Int32, y = v1 + (1) := ⟨_, rfl⟩
        have hw := hw x27 ex27
        refine lv_iinc (v := x27) (lv' := [(1, .int x27), (0, .ref (a 21))]) (pc := 21) C.1 C.2.1 dX2_planOneByOne_21 hl (k := 1) rfl (by rw [ex27]; rfl) (by decide) rfl (fun ls hl => ?_)
        refine lv_goto (tgt := 2) (pc := 24) C.1 C.2.1 dX2_planOneByOne_24 (by decide) ?_
        exact hw _ _ _ h (lv_sub hl [1, 0] rfl))
  refine lv_istore_n (lv' := [(1, .int ((0 : Int32))), (0, .ref (a 21))]) (pc := 1) C.1 C.2.1 dX2_planOneByOne_1 rfl hl (by decide) rfl (fun ls hl => ?_)
  exact hw _ _ _ h (lv_sub hl [1, 0] rfl)

def wp_X8_each  (z : St) (P : Int32 → St → Prop) : Prop :=
  (wp_X2_planOneByOne z (fun r2 z1 => P r2 z1))
set_option maxHeartbeats 4000000 in
set_option maxRecDepth 100000 in
theorem m_X8_each (l : Launch) (D : va_G) (t : Ty3) (a : Nat → Nat)  (z : St) (P : Int32 → St → Prop) (hw : wp_X8_each z P) : CtI l D t yX8_each cX8_each 1 (some .int) 6 (wX t a) (wX t a z) [.ref (a 0)] P := by
  refine ctI_of (by decide) (Nat.le_of_ble_eq_true rfl) ?_
  intro p e s m args below meth c A ls C hr hlk h hl
  have hl : lv_has ls 1 [(0, .ref (a 0))] := hl
  unfold wp_X8_each at hw
  refine lv_aload_n (pc := 0) C.1 C.2.1 dX8_each_0 rfl (lv_at hl 0 rfl) ?_
  refine GX_X8_37_0 (pc := 1) C h dX8_each_1 ?_
  refine cl_vi (pc := 4) (As := []) (rest := []) C h (m_X2_planOneByOne l D t a z _ hw) mw_X2_planOneByOne lm_X8_195 md_X2_planOneByOne rcX_21 ⟨by decide, by decide⟩ ⟨Nat.zero_le _, Nat.zero_le _⟩ hl.1 rfl (Nat.le_of_ble_eq_true rfl) dX8_each_4 (fun r2 z1 H locs hw h => ?_)
  exact rt_i (pc := 7) C hr hlk h hw dX8_each_7

def wp_X4_append (b1 : Int32) (z : St) (P : St → Prop) : Prop :=
  (∀ K2 : Int32 → St → Prop, (∀ (v1 : Int32) (z3 : St), (((v1 < 0) → P z3) ∧ (¬ (v1 < 0) → (((((300 : Int32)) ≤ (gI z3 3701)) → P z3) ∧ (¬ (((300 : Int32)) ≤ (gI z3 3701)) → (vp_in (gI z3 3701) 300 ∧ (∀ z6 : St, z6 = wR z3 38 (upd (gF z3 38) (gI z3 3701).toNatClampNeg ((b1 >>> (v1 &&& 31)) &&& ((255 : Int32)))) → (∀ z7 : St, z7 = wI z6 3701 ((gI z6 3701) + ((1 : Int32))) → (∀ x8 : Int32, x8 = v1 + (-8) → K2 x8 z7)))))))) → K2 v1 z3) → K2 ((24 : Int32)) z)
set_option maxHeartbeats 4000000 in
set_option maxRecDepth 100000 in
theorem m_X4_append (l : Launch) (D : va_G) (t : Ty3) (a : Nat → Nat) (b1 : Int32) (z : St) (P : St → Prop) (hw : wp_X4_append b1 z P) : CtV l D t yX4_append cX4_append 3 none 0 (wX t a) (wX t a z) [.ref (a 37), .int b1] P := by
  refine ctV_of (by decide) (Nat.le_of_ble_eq_true rfl) ?_
  intro p e s m args below meth c A ls C hr hlk h hl
  have hl : lv_has ls 3 [(0, .ref (a 37)), (1, .int b1)] := hl
  unfold wp_X4_append at hw
  refine lv_bipush (v := 24) (pc := 0) C.1 C.2.1 dX4_append_0 (by decide) ?_
  have hw := hw (fun (v1 : Int32) (z3 : St) => ∀ (H : Heap) (locs : List Loc) (ls : Array Slot), wd D t A s (wX t a z3) H locs → lv_has ls 3 [(0, .ref (a 37)), (1, .int b1), (2, .int v1)] → W p l e (rmd 0) s m args below meth c H locs 0 0 (QV D t A (wX t a) P below args s) (F0 m 3 ls [])) (by
      intro v1 z3 hw H locs ls h hl
      refine lv_iload_n (pc := 3) C.1 C.2.1 dX4_append_3 rfl (lv_at hl 2 rfl) ?_
      refine lv_if_lt (tgt := 49) (pc := 4) C.1 C.2.1 dX4_append_4 (by decide) (fun c4 => ?_) (fun c4 => ?_)
      · have hw := hw.1 c4
        exact rt_v (pc := 49) C hr hlk h hw dX4_append_49
      · have hw := hw.2 c4
        refine lv_aload_n (pc := 7) C.1 C.2.1 dX4_append_7 rfl (lv_at hl 0 rfl) ?_
        refine GX_X4_15_37 (pc := 8) C h dX4_append_8 ?_
        refine lv_sipush (v := 300) (pc := 11) C.1 C.2.1 dX4_append_11 (by decide) ?_
        refine lv_icmp_ge (tgt := 49) (pc := 14) C.1 C.2.1 dX4_append_14 (by decide) (fun c5 => ?_) (fun c5 => ?_)
        · have hw := hw.1 c5
          exact rt_v (pc := 49) C hr hlk h hw dX4_append_49
        · have hw := hw.2 c5
          refine lv_aload_n (pc := 17) C.1 C.2.1 dX4_append_17 rfl (lv_at hl 0 rfl) ?_
          refine GX_X4_9_37 (pc := 18) C h dX4_append_18 ?_
          refine lv_aload_n (pc := 21) C.1 C.2.1 dX4_append_21 rfl (lv_at hl 0 rfl) ?_
          refine GX_X4_15_37 (pc := 22) C h dX4_append_22 ?_
          refine lv_iload_n (pc := 25) C.1 C.2.1 dX4_append_25 rfl (lv_at hl 1 rfl) ?_
          refine lv_iload_n (pc := 26) C.1 C.2.1 dX4_append_26 rfl (lv_at hl 2 rfl) ?_
          refine lv_ishr (pc := 27) C.1 C.2.1 dX4_append_27 ?_
          refine lv_sipush (v := 255) (pc := 28) C.1 C.2.1 dX4_append_28 (by decide) ?_
          refine lv_iand (pc := 31) C.1 C.2.1 dX4_append_31 ?_
          refine stX_38 (pc := 32) C h hw.1 dX4_append_32 (fun z6 ez6 H locs h => ?_)
          have hw := hw.2 z6 ez6
          refine lv_aload_n (pc := 33) C.1 C.2.1 dX4_append_33 rfl (lv_at hl 0 rfl) ?_
          refine lv_dup (pc := 34) C.1 C.2.1 dX4_append_34 rfl ?_
          refine GX_X4_15_37 (pc := 35) C h dX4_append_35 ?_
          refine lv_iconst (v := 1) (pc := 38) C.1 C.2.1 dX4_append_38 (by decide) ?_
          refine lv_iadd (pc := 39) C.1 C.2.1 dX4_append_39 ?_
          refine PX_X4_15_37 (pc := 40) C h dX4_append_40 (fun z7 ez7 H locs h => ?_)
          have hw := hw z7 ez7
          obtain ⟨x8, ex8⟩ : ∃ y : Int32, y = v1 + (-8) := ⟨_, rfl⟩
          have hw := hw x8 ex8
          refine lv_iinc (v := x8) (lv' := [(2, .int x8), (0, .ref (a 37)), (1, .int b1)]) (pc := 43) C.1 C.2.1 dX4_append_43 hl (k := 2) rfl (by rw [ex8]; rfl) (by decide) rfl (fun ls hl => ?_)
          refine lv_goto (tgt := 3) (pc := 46) C.1 C.2.1 dX4_append_46 (by decide) ?_
          exact hw _ _ _ h (lv_sub hl [1, 2, 0] rfl))
  refine lv_istore_n (lv' := [(2, .int ((24 : Int32))), (0, .ref (a 37)), (1, .int b1)]) (pc := 2) C.1 C.2.1 dX4_append_2 rfl hl (by decide) rfl (fun ls hl => ?_)
  exact hw _ _ _ h (lv_sub hl [1, 2, 0] rfl)

def wp_X8_feed (b1 : Int32) (b2 : Int32) (b3 : Int32) (b4 : Int32) (b5 : Int32) (z : St) (P : Int32 → St → Prop) : Prop :=
  ((((gI z 3701) ≤ ((280 : Int32))) → (wp_X4_append b1 z (fun z2 => (wp_X4_append b2 z2 (fun z4 => (wp_X4_append b3 z4 (fun z6 => (wp_X4_append b4 z6 (fun z8 => (wp_X4_append b5 z8 (fun z10 => P (gI z10 3701) z10))))))))))) ∧ (¬ ((gI z 3701) ≤ ((280 : Int32))) → P ((-1 : Int32)) z))
set_option maxHeartbeats 4000000 in
set_option maxRecDepth 100000 in
theorem m_X8_feed (l : Launch) (D : va_G) (t : Ty3) (a : Nat → Nat) (b1 : Int32) (b2 : Int32) (b3 : Int32) (b4 : Int32) (b5 : Int32) (z : St) (P : Int32 → St → Prop) (hw : wp_X8_feed b1 b2 b3 b4 b5 z P) : CtI l D t yX8_feed cX8_feed 6 (some .int) 1 (wX t a) (wX t a z) [.ref (a 0), .int b1, .int b2, .int b3, .int b4, .int b5] P := by
  refine ctI_of (by decide) (Nat.le_of_ble_eq_true rfl) ?_
  intro p e s m args below meth c A ls C hr hlk h hl
  have hl : lv_has ls 6 [(0, .ref (a 0)), (1, .int b1), (2, .int b2), (3, .int b3), (4, .int b4), (5, .int b5)] := hl
  unfold wp_X8_feed at hw
  refine lv_aload_n (pc := 0) C.1 C.2.1 dX8_feed_0 rfl (lv_at hl 0 rfl) ?_
  refine GX_X8_44_0 (pc := 1) C h dX8_feed_1 ?_
  refine GX_X8_199_37 (pc := 4) C h dX8_feed_4 ?_
  refine lv_sipush (v := 280) (pc := 7) C.1 C.2.1 dX8_feed_7 (by decide) ?_
  refine lv_icmp_le (tgt := 15) (pc := 10) C.1 C.2.1 dX8_feed_10 (by decide) (fun c1 => ?_) (fun c1 => ?_)
  · have hw := hw.1 c1
    refine lv_aload_n (pc := 15) C.1 C.2.1 dX8_feed_15 rfl (lv_at hl 0 rfl) ?_
    refine GX_X8_44_0 (pc := 16) C h dX8_feed_16 ?_
    refine lv_iload_n (pc := 19) C.1 C.2.1 dX8_feed_19 rfl (lv_at hl 1 rfl) ?_
    refine cl_vv (pc := 20) (As := [.int b1]) (rest := []) C h (m_X4_append l D t a b1 z _ hw) mw_X4_append lm_X8_202 md_X4_append rcX_37 ⟨by decide, by decide⟩ ⟨Nat.zero_le _, Nat.zero_le _⟩ hl.1 rfl (Nat.le_of_ble_eq_true rfl) dX8_feed_20 (fun z2 H locs hw h => ?_)
    refine lv_aload_n (pc := 23) C.1 C.2.1 dX8_feed_23 rfl (lv_at hl 0 rfl) ?_
    refine GX_X8_44_0 (pc := 24) C h dX8_feed_24 ?_
    refine lv_iload_n (pc := 27) C.1 C.2.1 dX8_feed_27 rfl (lv_at hl 2 rfl) ?_
    refine cl_vv (pc := 28) (As := [.int b2]) (rest := []) C h (m_X4_append l D t a b2 z2 _ hw) mw_X4_append lm_X8_202 md_X4_append rcX_37 ⟨by decide, by decide⟩ ⟨Nat.zero_le _, Nat.zero_le _⟩ hl.1 rfl (Nat.le_of_ble_eq_true rfl) dX8_feed_28 (fun z4 H locs hw h => ?_)
    refine lv_aload_n (pc := 31) C.1 C.2.1 dX8_feed_31 rfl (lv_at hl 0 rfl) ?_
    refine GX_X8_44_0 (pc := 32) C h dX8_feed_32 ?_
    refine lv_iload_n (pc := 35) C.1 C.2.1 dX8_feed_35 rfl (lv_at hl 3 rfl) ?_
    refine cl_vv (pc := 36) (As := [.int b3]) (rest := []) C h (m_X4_append l D t a b3 z4 _ hw) mw_X4_append lm_X8_202 md_X4_append rcX_37 ⟨by decide, by decide⟩ ⟨Nat.zero_le _, Nat.zero_le _⟩ hl.1 rfl (Nat.le_of_ble_eq_true rfl) dX8_feed_36 (fun z6 H locs hw h => ?_)
    refine lv_aload_n (pc := 39) C.1 C.2.1 dX8_feed_39 rfl (lv_at hl 0 rfl) ?_
    refine GX_X8_44_0 (pc := 40) C h dX8_feed_40 ?_
    refine lv_iload (pc := 43) C.1 C.2.1 dX8_feed_43 (lv_at hl 4 rfl) ?_
    refine cl_vv (pc := 45) (As := [.int b4]) (rest := []) C h (m_X4_append l D t a b4 z6 _ hw) mw_X4_append lm_X8_202 md_X4_append rcX_37 ⟨by decide, by decide⟩ ⟨Nat.zero_le _, Nat.zero_le _⟩ hl.1 rfl (Nat.le_of_ble_eq_true rfl) dX8_feed_45 (fun z8 H locs hw h => ?_)
    refine lv_aload_n (pc := 48) C.1 C.2.1 dX8_feed_48 rfl (lv_at hl 0 rfl) ?_
    refine GX_X8_44_0 (pc := 49) C h dX8_feed_49 ?_
    refine lv_iload (pc := 52) C.1 C.2.1 dX8_feed_52 (lv_at hl 5 rfl) ?_
    refine cl_vv (pc := 54) (As := [.int b5]) (rest := []) C h (m_X4_append l D t a b5 z8 _ hw) mw_X4_append lm_X8_202 md_X4_append rcX_37 ⟨by decide, by decide⟩ ⟨Nat.zero_le _, Nat.zero_le _⟩ hl.1 rfl (Nat.le_of_ble_eq_true rfl) dX8_feed_54 (fun z10 H locs hw h => ?_)
    refine lv_aload_n (pc := 57) C.1 C.2.1 dX8_feed_57 rfl (lv_at hl 0 rfl) ?_
    refine GX_X8_44_0 (pc := 58) C h dX8_feed_58 ?_
    refine GX_X8_199_37 (pc := 61) C h dX8_feed_61 ?_
    exact rt_i (pc := 64) C hr hlk h hw dX8_feed_64
  · have hw := hw.2 c1
    refine lv_iconst (v := -1) (pc := 13) C.1 C.2.1 dX8_feed_13 (by decide) ?_
    exact rt_i (pc := 14) C hr hlk h hw dX8_feed_14

def wp_X8_end (b1 : Int32) (z : St) (P : Int32 → St → Prop) : Prop :=
  (((b1 < 0) → P ((-1 : Int32)) z) ∧ (¬ (b1 < 0) → (((b1 ≤ (gI z 3701)) → (∀ z3 : St, z3 = wI z 3701 b1 → P b1 z3)) ∧ (¬ (b1 ≤ (gI z 3701)) → P ((-1 : Int32)) z))))
set_option maxHeartbeats 4000000 in
set_option maxRecDepth 100000 in
theorem m_X8_end (l : Launch) (D : va_G) (t : Ty3) (a : Nat → Nat) (b1 : Int32) (z : St) (P : Int32 → St → Prop) (hw : wp_X8_end b1 z P) : CtI l D t yX8_end cX8_end 2 (some .int) 0 (wX t a) (wX t a z) [.ref (a 0), .int b1] P := by
  refine ctI_of (by decide) (Nat.le_of_ble_eq_true rfl) ?_
  intro p e s m args below meth c A ls C hr hlk h hl
  have hl : lv_has ls 2 [(0, .ref (a 0)), (1, .int b1)] := hl
  unfold wp_X8_end at hw
  refine lv_iload_n (pc := 0) C.1 C.2.1 dX8_end_0 rfl (lv_at hl 1 rfl) ?_
  refine lv_if_lt (tgt := 15) (pc := 1) C.1 C.2.1 dX8_end_1 (by decide) (fun c1 => ?_) (fun c1 => ?_)
  · have hw := hw.1 c1
    refine lv_iconst (v := -1) (pc := 15) C.1 C.2.1 dX8_end_15 (by decide) ?_
    exact rt_i (pc := 16) C hr hlk h hw dX8_end_16
  · have hw := hw.2 c1
    refine lv_iload_n (pc := 4) C.1 C.2.1 dX8_end_4 rfl (lv_at hl 1 rfl) ?_
    refine lv_aload_n (pc := 5) C.1 C.2.1 dX8_end_5 rfl (lv_at hl 0 rfl) ?_
    refine GX_X8_44_0 (pc := 6) C h dX8_end_6 ?_
    refine GX_X8_199_37 (pc := 9) C h dX8_end_9 ?_
    refine lv_icmp_le (tgt := 17) (pc := 12) C.1 C.2.1 dX8_end_12 (by decide) (fun c2 => ?_) (fun c2 => ?_)
    · have hw := hw.1 c2
      refine lv_aload_n (pc := 17) C.1 C.2.1 dX8_end_17 rfl (lv_at hl 0 rfl) ?_
      refine GX_X8_44_0 (pc := 18) C h dX8_end_18 ?_
      refine lv_iload_n (pc := 21) C.1 C.2.1 dX8_end_21 rfl (lv_at hl 1 rfl) ?_
      refine PX_X8_199_37 (pc := 22) C h dX8_end_22 (fun z3 ez3 H locs h => ?_)
      have hw := hw z3 ez3
      refine lv_iload_n (pc := 25) C.1 C.2.1 dX8_end_25 rfl (lv_at hl 1 rfl) ?_
      exact rt_i (pc := 26) C hr hlk h hw dX8_end_26
    · have hw := hw.2 c2
      refine lv_iconst (v := -1) (pc := 15) C.1 C.2.1 dX8_end_15 (by decide) ?_
      exact rt_i (pc := 16) C hr hlk h hw dX8_end_16

def wp_X8_fault  (z : St) (P : Int32 → St → Prop) : Prop :=
  P (gI z 7) z
set_option maxHeartbeats 4000000 in
set_option maxRecDepth 100000 in
theorem m_X8_fault (l : Launch) (D : va_G) (t : Ty3) (a : Nat → Nat)  (z : St) (P : Int32 → St → Prop) (hw : wp_X8_fault z P) : CtI l D t yX8_fault cX8_fault 1 (some .int) 0 (wX t a) (wX t a z) [.ref (a 0)] P := by
  refine ctI_of (by decide) (Nat.le_of_ble_eq_true rfl) ?_
  intro p e s m args below meth c A ls C hr hlk h hl
  have hl : lv_has ls 1 [(0, .ref (a 0))] := hl
  unfold wp_X8_fault at hw
  refine lv_aload_n (pc := 0) C.1 C.2.1 dX8_fault_0 rfl (lv_at hl 0 rfl) ?_
  refine GX_X8_64_0 (pc := 1) C h dX8_fault_1 ?_
  exact rt_i (pc := 4) C hr hlk h hw dX8_fault_4

def wp_X1_beginBefore (b1 : Int32) (z : St) (P : St → Prop) : Prop :=
  (∀ K2 : Int32 → St → Prop, (∀ (v1 : Int32) (z3 : St), ((((gI z3 1308) ≤ v1) → P z3) ∧ (¬ ((gI z3 1308) ≤ v1) → (vp_in v1 16 ∧ (∀ K6 : Int32 → St → Prop, (∀ (v5 : Int32) (z7 : St), (∀ x8 : Int32, x8 = v5 + (1) → K2 x8 z7) → K6 v5 z7) → (((¬ (gF z3 19 v1.toNatClampNeg) = ((1 : Int32))) → K6 v1 z3) ∧ ((gF z3 19 v1.toNatClampNeg) = ((1 : Int32)) → (vp_in v1 16 ∧ (((b1 ≤ (gF z3 20 v1.toNatClampNeg)) → K6 v1 z3) ∧ (¬ (b1 ≤ (gF z3 20 v1.toNatClampNeg)) → (vp_in v1 16 ∧ (∀ z11 : St, z11 = wR z3 19 (upd (gF z3 19) v1.toNatClampNeg ((2 : Int32))) → K6 v1 z11))))))))))) → K2 v1 z3) → K2 ((0 : Int32)) z)
set_option maxHeartbeats 4000000 in
set_option maxRecDepth 100000 in
theorem m_X1_beginBefore (l : Launch) (D : va_G) (t : Ty3) (a : Nat → Nat) (b1 : Int32) (z : St) (P : St → Prop) (hw : wp_X1_beginBefore b1 z P) : CtV l D t yX1_beginBefore cX1_beginBefore 3 none 0 (wX t a) (wX t a z) [.ref (a 13), .int b1] P := by
  refine ctV_of (by decide) (Nat.le_of_ble_eq_true rfl) ?_
  intro p e s m args below meth c A ls C hr hlk h hl
  have hl : lv_has ls 3 [(0, .ref (a 13)), (1, .int b1)] := hl
  unfold wp_X1_beginBefore at hw
  refine lv_iconst (v := 0) (pc := 0) C.1 C.2.1 dX1_beginBefore_0 (by decide) ?_
  have hw := hw (fun (v1 : Int32) (z3 : St) => ∀ (H : Heap) (locs : List Loc) (ls : Array Slot), wd D t A s (wX t a z3) H locs → lv_has ls 3 [(0, .ref (a 13)), (1, .int b1), (2, .int v1)] → W p l e (rmd 0) s m args below meth c H locs 0 0 (QV D t A (wX t a) P below args s) (F0 m 2 ls [])) (by
      intro v1 z3 hw H locs ls h hl
      refine lv_iload_n (pc := 2) C.1 C.2.1 dX1_beginBefore_2 rfl (lv_at hl 2 rfl) ?_
      refine lv_aload_n (pc := 3) C.1 C.2.1 dX1_beginBefore_3 rfl (lv_at hl 0 rfl) ?_
      refine GX_X1_37_13 (pc := 4) C h dX1_beginBefore_4 ?_
      refine lv_icmp_ge (tgt := 43) (pc := 7) C.1 C.2.1 dX1_beginBefore_7 (by decide) (fun c4 => ?_) (fun c4 => ?_)
      · have hw := hw.1 c4
        exact rt_v (pc := 43) C hr hlk h hw dX1_beginBefore_43
      · have hw := hw.2 c4
        refine lv_aload_n (pc := 10) C.1 C.2.1 dX1_beginBefore_10 rfl (lv_at hl 0 rfl) ?_
        refine GX_X1_27_13 (pc := 11) C h dX1_beginBefore_11 ?_
        refine lv_iload_n (pc := 14) C.1 C.2.1 dX1_beginBefore_14 rfl (lv_at hl 2 rfl) ?_
        refine ldX_19 (pc := 15) C h hw.1 dX1_beginBefore_15 ?_
        have hw := hw.2
        refine lv_iconst (v := 1) (pc := 16) C.1 C.2.1 dX1_beginBefore_16 (by decide) ?_
        have hw := hw (fun (v5 : Int32) (z7 : St) => ∀ (H : Heap) (locs : List Loc) (ls : Array Slot), wd D t A s (wX t a z7) H locs → lv_has ls 3 [(0, .ref (a 13)), (1, .int b1), (2, .int v5)] → W p l e (rmd 0) s m args below meth c H locs 0 0 (QV D t A (wX t a) P below args s) (F0 m 37 ls [])) (by
            intro v5 z7 hw H locs ls h hl
            obtain ⟨x8, ex8⟩ : ∃ y : Int32, y = v5 + (1) := ⟨_, rfl⟩
            have hw := hw x8 ex8
            refine lv_iinc (v := x8) (lv' := [(2, .int x8), (0, .ref (a 13)), (1, .int b1)]) (pc := 37) C.1 C.2.1 dX1_beginBefore_37 hl (k := 2) rfl (by rw [ex8]; rfl) (by decide) rfl (fun ls hl => ?_)
            refine lv_goto (tgt := 2) (pc := 40) C.1 C.2.1 dX1_beginBefore_40 (by decide) ?_
            exact hw _ _ _ h (lv_sub hl [1, 2, 0] rfl))
        refine lv_icmp_ne (tgt := 37) (pc := 17) C.1 C.2.1 dX1_beginBefore_17 (by decide) (fun c9 => ?_) (fun c9 => ?_)
        · have hw := hw.1 c9
          exact hw _ _ _ h (lv_sub hl [0, 1, 2] rfl)
        · have hw := hw.2 c9
          refine lv_aload_n (pc := 20) C.1 C.2.1 dX1_beginBefore_20 rfl (lv_at hl 0 rfl) ?_
          refine GX_X1_30_13 (pc := 21) C h dX1_beginBefore_21 ?_
          refine lv_iload_n (pc := 24) C.1 C.2.1 dX1_beginBefore_24 rfl (lv_at hl 2 rfl) ?_
          refine ldX_20 (pc := 25) C h hw.1 dX1_beginBefore_25 ?_
          have hw := hw.2
          refine lv_iload_n (pc := 26) C.1 C.2.1 dX1_beginBefore_26 rfl (lv_at hl 1 rfl) ?_
          refine lv_icmp_ge (tgt := 37) (pc := 27) C.1 C.2.1 dX1_beginBefore_27 (by decide) (fun c10 => ?_) (fun c10 => ?_)
          · have hw := hw.1 c10
            exact hw _ _ _ h (lv_sub hl [0, 1, 2] rfl)
          · have hw := hw.2 c10
            refine lv_aload_n (pc := 30) C.1 C.2.1 dX1_beginBefore_30 rfl (lv_at hl 0 rfl) ?_
            refine GX_X1_27_13 (pc := 31) C h dX1_beginBefore_31 ?_
            refine lv_iload_n (pc := 34) C.1 C.2.1 dX1_beginBefore_34 rfl (lv_at hl 2 rfl) ?_
            refine lv_iconst (v := 2) (pc := 35) C.1 C.2.1 dX1_beginBefore_35 (by decide) ?_
            refine stX_19 (pc := 36) C h hw.1 dX1_beginBefore_36 (fun z11 ez11 H locs h => ?_)
            have hw := hw.2 z11 ez11
            exact hw _ _ _ h (lv_sub hl [0, 1, 2] rfl))
  refine lv_istore_n (lv' := [(2, .int ((0 : Int32))), (0, .ref (a 13)), (1, .int b1)]) (pc := 1) C.1 C.2.1 dX1_beginBefore_1 rfl hl (by decide) rfl (fun ls hl => ?_)
  exact hw _ _ _ h (lv_sub hl [1, 2, 0] rfl)

def wp_X8_go (b1 : Int32) (z : St) (P : Int32 → St → Prop) : Prop :=
  (∀ K1 : St → Prop, (∀ (z2 : St), (wp_X8_refuse ((-1 : Int32)) z2 (fun r4 z3 => P r4 z3)) → K1 z2) → (((b1 < ((1 : Int32))) → K1 z) ∧ (¬ (b1 < ((1 : Int32))) → (((((48 : Int32)) < b1) → K1 z) ∧ (¬ (((48 : Int32)) < b1) → (((((gI z 2104) + b1) < ((168 : Int32))) → (∀ z8 : St, z8 = wI z 2104 ((gI z 2104) + b1) → (wp_X1_beginBefore (gI z8 2104) z8 (fun z9 => (wp_X3_lay_5 (gI z9 2104) z9 (fun z11 => (wp_X8_accept (gI z11 2104) z11 (fun r14 z13 => P r14 z13)))))))) ∧ (¬ (((gI z 2104) + b1) < ((168 : Int32))) → K1 z)))))))
set_option maxHeartbeats 4000000 in
set_option maxRecDepth 100000 in
theorem m_X8_go (l : Launch) (D : va_G) (t : Ty3) (a : Nat → Nat) (b1 : Int32) (z : St) (P : Int32 → St → Prop) (hw : wp_X8_go b1 z P) : CtI l D t yX8_go cX8_go 2 (some .int) 2 (wX t a) (wX t a z) [.ref (a 0), .int b1] P := by
  refine ctI_of (by decide) (Nat.le_of_ble_eq_true rfl) ?_
  intro p e s m args below meth c A ls C hr hlk h hl
  have hl : lv_has ls 2 [(0, .ref (a 0)), (1, .int b1)] := hl
  unfold wp_X8_go at hw
  refine lv_iload_n (pc := 0) C.1 C.2.1 dX8_go_0 rfl (lv_at hl 1 rfl) ?_
  refine lv_iconst (v := 1) (pc := 1) C.1 C.2.1 dX8_go_1 (by decide) ?_
  have hw := hw (fun (z2 : St) => ∀ (H : Heap) (locs : List Loc) (ls : Array Slot), wd D t A s (wX t a z2) H locs → lv_has ls 2 [(0, .ref (a 0))] → W p l e (rmd 2) s m args below meth c H locs 0 0 (QI D t A (wX t a) P below args s) (F0 m 26 ls [])) (by
      intro z2 hw H locs ls h hl
      refine lv_aload_n (pc := 26) C.1 C.2.1 dX8_go_26 rfl (lv_at hl 0 rfl) ?_
      refine lv_iconst (v := -1) (pc := 27) C.1 C.2.1 dX8_go_27 (by decide) ?_
      refine cl_vi (pc := 28) (As := [.int ((-1 : Int32))]) (rest := []) C h (m_X8_refuse l D t a ((-1 : Int32)) z2 _ hw) mw_X8_refuse lm_X8_81 md_X8_refuse rcX_0 ⟨by decide, by decide⟩ ⟨Nat.zero_le _, Nat.zero_le _⟩ hl.1 rfl (Nat.le_of_ble_eq_true rfl) dX8_go_28 (fun r4 z3 H locs hw h => ?_)
      exact rt_i (pc := 31) C hr hlk h hw dX8_go_31)
  refine lv_icmp_lt (tgt := 26) (pc := 2) C.1 C.2.1 dX8_go_2 (by decide) (fun c5 => ?_) (fun c5 => ?_)
  · have hw := hw.1 c5
    exact hw _ _ _ h (lv_sub hl [0] rfl)
  · have hw := hw.2 c5
    refine lv_iload_n (pc := 5) C.1 C.2.1 dX8_go_5 rfl (lv_at hl 1 rfl) ?_
    refine lv_bipush (v := 48) (pc := 6) C.1 C.2.1 dX8_go_6 (by decide) ?_
    refine lv_icmp_gt (tgt := 26) (pc := 8) C.1 C.2.1 dX8_go_8 (by decide) (fun c6 => ?_) (fun c6 => ?_)
    · have hw := hw.1 c6
      exact hw _ _ _ h (lv_sub hl [0] rfl)
    · have hw := hw.2 c6
      refine lv_aload_n (pc := 11) C.1 C.2.1 dX8_go_11 rfl (lv_at hl 0 rfl) ?_
      refine GX_X8_37_0 (pc := 12) C h dX8_go_12 ?_
      refine GX_X8_92_21 (pc := 15) C h dX8_go_15 ?_
      refine lv_iload_n (pc := 18) C.1 C.2.1 dX8_go_18 rfl (lv_at hl 1 rfl) ?_
      refine lv_iadd (pc := 19) C.1 C.2.1 dX8_go_19 ?_
      refine lv_sipush (v := 168) (pc := 20) C.1 C.2.1 dX8_go_20 (by decide) ?_
      refine lv_icmp_lt (tgt := 32) (pc := 23) C.1 C.2.1 dX8_go_23 (by decide) (fun c7 => ?_) (fun c7 => ?_)
      · have hw := hw.1 c7
        refine lv_aload_n (pc := 32) C.1 C.2.1 dX8_go_32 rfl (lv_at hl 0 rfl) ?_
        refine GX_X8_37_0 (pc := 33) C h dX8_go_33 ?_
        refine lv_dup (pc := 36) C.1 C.2.1 dX8_go_36 rfl ?_
        refine GX_X8_92_21 (pc := 37) C h dX8_go_37 ?_
        refine lv_iload_n (pc := 40) C.1 C.2.1 dX8_go_40 rfl (lv_at hl 1 rfl) ?_
        refine lv_iadd (pc := 41) C.1 C.2.1 dX8_go_41 ?_
        refine PX_X8_92_21 (pc := 42) C h dX8_go_42 (fun z8 ez8 H locs h => ?_)
        have hw := hw z8 ez8
        refine lv_aload_n (pc := 45) C.1 C.2.1 dX8_go_45 rfl (lv_at hl 0 rfl) ?_
        refine GX_X8_28_0 (pc := 46) C h dX8_go_46 ?_
        refine lv_aload_n (pc := 49) C.1 C.2.1 dX8_go_49 rfl (lv_at hl 0 rfl) ?_
        refine GX_X8_37_0 (pc := 50) C h dX8_go_50 ?_
        refine GX_X8_92_21 (pc := 53) C h dX8_go_53 ?_
        refine cl_vv (pc := 56) (As := [.int (gI z8 2104)]) (rest := []) C h (m_X1_beginBefore l D t a (gI z8 2104) z8 _ hw) mw_X1_beginBefore lm_X8_216 md_X1_beginBefore rcX_13 ⟨by decide, by decide⟩ ⟨Nat.zero_le _, Nat.zero_le _⟩ hl.1 rfl (Nat.le_of_ble_eq_true rfl) dX8_go_56 (fun z9 H locs hw h => ?_)
        refine lv_aload_n (pc := 59) C.1 C.2.1 dX8_go_59 rfl (lv_at hl 0 rfl) ?_
        refine GX_X8_10_0 (pc := 60) C h dX8_go_60 ?_
        refine lv_aload_n (pc := 63) C.1 C.2.1 dX8_go_63 rfl (lv_at hl 0 rfl) ?_
        refine GX_X8_10_0 (pc := 64) C h dX8_go_64 ?_
        refine GX_X8_95_1 (pc := 67) C h dX8_go_67 ?_
        refine lv_aload_n (pc := 70) C.1 C.2.1 dX8_go_70 rfl (lv_at hl 0 rfl) ?_
        refine GX_X8_37_0 (pc := 71) C h dX8_go_71 ?_
        refine GX_X8_92_21 (pc := 74) C h dX8_go_74 ?_
        refine cl_vv (pc := 77) (As := [.ref (a 5), .int (gI z9 2104)]) (rest := []) C h (m_X3_lay_5 l D t a (gI z9 2104) z9 _ hw) mw_X3_lay lm_X8_105 md_X3_lay rcX_1 ⟨by decide, by decide⟩ ⟨Nat.zero_le _, Nat.zero_le _⟩ hl.1 rfl (Nat.le_of_ble_eq_true rfl) dX8_go_77 (fun z11 H locs hw h => ?_)
        refine lv_aload_n (pc := 80) C.1 C.2.1 dX8_go_80 rfl (lv_at hl 0 rfl) ?_
        refine lv_aload_n (pc := 81) C.1 C.2.1 dX8_go_81 rfl (lv_at hl 0 rfl) ?_
        refine GX_X8_37_0 (pc := 82) C h dX8_go_82 ?_
        refine GX_X8_92_21 (pc := 85) C h dX8_go_85 ?_
        refine cl_vi (pc := 88) (As := [.int (gI z11 2104)]) (rest := []) C h (m_X8_accept l D t a (gI z11 2104) z11 _ hw) mw_X8_accept lm_X8_99 md_X8_accept rcX_0 ⟨by decide, by decide⟩ ⟨Nat.zero_le _, Nat.zero_le _⟩ hl.1 rfl (Nat.le_of_ble_eq_true rfl) dX8_go_88 (fun r14 z13 H locs hw h => ?_)
        exact rt_i (pc := 91) C hr hlk h hw dX8_go_91
      · have hw := hw.2 c7
        exact hw _ _ _ h (lv_sub hl [0] rfl)

def wp_X8_load (b1 : Int32) (b2 : Int32) (z : St) (P : Int32 → St → Prop) : Prop :=
  (wp_X0_has b1 z (fun r2 z1 => (((r2 = 0) → P ((-1 : Int32)) z1) ∧ (¬ (r2 = 0) → (wp_X8_isHour b2 z1 (fun r5 z4 => (((r5 = 0) → P ((-1 : Int32)) z4) ∧ (¬ (r5 = 0) → (wp_X0_draws b1 b2 z4 (fun r8 z7 => P r8 z7))))))))))
set_option maxHeartbeats 4000000 in
set_option maxRecDepth 100000 in
theorem m_X8_load (l : Launch) (D : va_G) (t : Ty3) (a : Nat → Nat) (b1 : Int32) (b2 : Int32) (z : St) (P : Int32 → St → Prop) (hw : wp_X8_load b1 b2 z P) : CtI l D t yX8_load cX8_load 3 (some .int) 2 (wX t a) (wX t a z) [.ref (a 0), .int b1, .int b2] P := by
  refine ctI_of (by decide) (Nat.le_of_ble_eq_true rfl) ?_
  intro p e s m args below meth c A ls C hr hlk h hl
  have hl : lv_has ls 3 [(0, .ref (a 0)), (1, .int b1), (2, .int b2)] := hl
  unfold wp_X8_load at hw
  refine lv_aload_n (pc := 0) C.1 C.2.1 dX8_load_0 rfl (lv_at hl 0 rfl) ?_
  refine GX_X8_19_0 (pc := 1) C h dX8_load_1 ?_
  refine lv_iload_n (pc := 4) C.1 C.2.1 dX8_load_4 rfl (lv_at hl 1 rfl) ?_
  refine cl_vi (pc := 5) (As := [.int b1]) (rest := []) C h (m_X0_has l D t a b1 z _ hw) mw_X0_has lm_X8_121 md_X0_has rcX_7 ⟨by decide, by decide⟩ ⟨Nat.zero_le _, Nat.zero_le _⟩ hl.1 rfl (Nat.le_of_ble_eq_true rfl) dX8_load_5 (fun r2 z1 H locs hw h => ?_)
  refine lv_if_eq (tgt := 30) (pc := 8) C.1 C.2.1 dX8_load_8 (by decide) (fun c3 => ?_) (fun c3 => ?_)
  · have hw := hw.1 c3
    refine lv_iconst (v := -1) (pc := 30) C.1 C.2.1 dX8_load_30 (by decide) ?_
    exact rt_i (pc := 31) C hr hlk h hw dX8_load_31
  · have hw := hw.2 c3
    refine lv_iload_n (pc := 11) C.1 C.2.1 dX8_load_11 rfl (lv_at hl 2 rfl) ?_
    refine cl_si (pc := 12) (As := [.int b2]) (rest := []) C h (m_X8_isHour l D t a b2 z1 _ hw) mw_X8_isHour lm_X8_71 md_X8_isHour ⟨by decide, by decide⟩ ⟨Nat.zero_le _, Nat.zero_le _⟩ hl.1 rfl (Nat.le_of_ble_eq_true rfl) dX8_load_12 (fun r5 z4 H locs hw h => ?_)
    refine lv_if_eq (tgt := 30) (pc := 15) C.1 C.2.1 dX8_load_15 (by decide) (fun c6 => ?_) (fun c6 => ?_)
    · have hw := hw.1 c6
      refine lv_iconst (v := -1) (pc := 30) C.1 C.2.1 dX8_load_30 (by decide) ?_
      exact rt_i (pc := 31) C hr hlk h hw dX8_load_31
    · have hw := hw.2 c6
      refine lv_aload_n (pc := 18) C.1 C.2.1 dX8_load_18 rfl (lv_at hl 0 rfl) ?_
      refine GX_X8_19_0 (pc := 19) C h dX8_load_19 ?_
      refine lv_iload_n (pc := 22) C.1 C.2.1 dX8_load_22 rfl (lv_at hl 1 rfl) ?_
      refine lv_iload_n (pc := 23) C.1 C.2.1 dX8_load_23 rfl (lv_at hl 2 rfl) ?_
      refine cl_vi (pc := 24) (As := [.int b1, .int b2]) (rest := []) C h (m_X0_draws l D t a b1 b2 z4 _ hw) mw_X0_draws lm_X8_219 md_X0_draws rcX_7 ⟨by decide, by decide⟩ ⟨Nat.zero_le _, Nat.zero_le _⟩ hl.1 rfl (Nat.le_of_ble_eq_true rfl) dX8_load_24 (fun r8 z7 H locs hw h => ?_)
      refine lv_goto (tgt := 31) (pc := 27) C.1 C.2.1 dX8_load_27 (by decide) ?_
      exact rt_i (pc := 31) C hr hlk h hw dX8_load_31

def wp_J7_fill_53178_6 (b2 : Int32) (z : St) (P : St → Prop) : Prop :=
  (∀ K3 : Int32 → Int32 → St → Prop, (∀ (v1 : Int32) (v2 : Int32) (z4 : St), (((v2 ≤ v1) → P z4) ∧ (¬ (v2 ≤ v1) → (vp_in v1 168 ∧ (∀ z6 : St, z6 = wR z4 6 (upd (gF z4 6) v1.toNatClampNeg b2) → (∀ x7 : Int32, x7 = v1 + (1) → K3 x7 v2 z6))))) → K3 v1 v2 z4) → K3 ((0 : Int32)) ((168 : Int32)) z)
set_option maxHeartbeats 4000000 in
set_option maxRecDepth 100000 in
theorem m_J7_fill_53178_6 (l : Launch) (D : va_G) (t : Ty3) (a : Nat → Nat) (b2 : Int32) (z : St) (P : St → Prop) (hw : wp_J7_fill_53178_6 b2 z P) : CtV l D t yJ7_fill_53178 cJ7_fill_53178 4 none 0 (wX t a) (wX t a z) [.ref (a 6), .int b2] P := by
  refine ctV_of (by decide) (Nat.le_of_ble_eq_true rfl) ?_
  intro p e s m args below meth c A ls C hr hlk h hl
  have hl : lv_has ls 4 [(0, .ref (a 6)), (1, .int b2)] := hl
  unfold wp_J7_fill_53178_6 at hw
  refine lv_iconst (v := 0) (pc := 0) C.1 C.2.1 dJ7_fill_53178_0 (by decide) ?_
  refine lv_istore_n (lv' := [(2, .int ((0 : Int32))), (0, .ref (a 6)), (1, .int b2)]) (pc := 1) C.1 C.2.1 dJ7_fill_53178_1 rfl hl (by decide) rfl (fun ls hl => ?_)
  refine lv_aload_n (pc := 2) C.1 C.2.1 dJ7_fill_53178_2 rfl (lv_at hl 1 rfl) ?_
  refine r_len (pc := 3) (n := 168) (q := 6) (v := 168) C h rfl (by decide) dJ7_fill_53178_3 ?_
  have hw := hw (fun (v1 : Int32) (v2 : Int32) (z4 : St) => ∀ (H : Heap) (locs : List Loc) (ls : Array Slot), wd D t A s (wX t a z4) H locs → lv_has ls 4 [(0, .ref (a 6)), (1, .int b2), (2, .int v1), (3, .int v2)] → W p l e (rmd 0) s m args below meth c H locs 0 0 (QV D t A (wX t a) P below args s) (F0 m 5 ls [])) (by
      intro v1 v2 z4 hw H locs ls h hl
      refine lv_iload_n (pc := 5) C.1 C.2.1 dJ7_fill_53178_5 rfl (lv_at hl 2 rfl) ?_
      refine lv_iload_n (pc := 6) C.1 C.2.1 dJ7_fill_53178_6 rfl (lv_at hl 3 rfl) ?_
      refine lv_icmp_ge (tgt := 20) (pc := 7) C.1 C.2.1 dJ7_fill_53178_7 (by decide) (fun c5 => ?_) (fun c5 => ?_)
      · have hw := hw.1 c5
        exact rt_v (pc := 20) C hr hlk h hw dJ7_fill_53178_20
      · have hw := hw.2 c5
        refine lv_aload_n (pc := 10) C.1 C.2.1 dJ7_fill_53178_10 rfl (lv_at hl 0 rfl) ?_
        refine lv_iload_n (pc := 11) C.1 C.2.1 dJ7_fill_53178_11 rfl (lv_at hl 2 rfl) ?_
        refine lv_iload_n (pc := 12) C.1 C.2.1 dJ7_fill_53178_12 rfl (lv_at hl 1 rfl) ?_
        refine stX_6 (pc := 13) C h hw.1 dJ7_fill_53178_13 (fun z6 ez6 H locs h => ?_)
        have hw := hw.2 z6 ez6
        obtain ⟨x7, ex7⟩ : ∃ y : Int32, y = v1 + (1) := ⟨_, rfl⟩
        have hw := hw x7 ex7
        refine lv_iinc (v := x7) (lv' := [(2, .int x7), (0, .ref (a 6)), (1, .int b2), (3, .int v2)]) (pc := 14) C.1 C.2.1 dJ7_fill_53178_14 hl (k := 2) rfl (by rw [ex7]; rfl) (by decide) rfl (fun ls hl => ?_)
        refine lv_goto (tgt := 5) (pc := 17) C.1 C.2.1 dJ7_fill_53178_17 (by decide) ?_
        exact hw _ _ _ h (lv_sub hl [1, 2, 0, 3] rfl))
  refine lv_istore_n (lv' := [(3, .int ((168 : Int32))), (2, .int ((0 : Int32))), (0, .ref (a 6)), (1, .int b2)]) (pc := 4) C.1 C.2.1 dJ7_fill_53178_4 rfl hl (by decide) rfl (fun ls hl => ?_)
  exact hw _ _ _ h (lv_sub hl [2, 3, 1, 0] rfl)

def wp_X3_lay_6 (b2 : Int32) (z : St) (P : St → Prop) : Prop :=
  (wp_J7_fill_53178_6 (gI z 106) z (fun z1 => (∀ K4 : Int32 → St → Prop, (∀ (v3 : Int32) (z5 : St), ((((gI z5 105) ≤ v3) → P z5) ∧ (¬ ((gI z5 105) ≤ v3) → (vp_in v3 400 ∧ (∀ K8 : Int32 → St → Prop, (∀ (v7 : Int32) (z9 : St), (∀ x10 : Int32, x10 = v7 + (1) → K4 x10 z9) → K8 v7 z9) → (((b2 < (gF z5 4 v3.toNatClampNeg)) → K8 v3 z5) ∧ (¬ (b2 < (gF z5 4 v3.toNatClampNeg)) → (vp_in v3 400 ∧ (vp_in v3 400 ∧ (vp_in (gF z5 2 v3.toNatClampNeg) 168 ∧ (∀ z12 : St, z12 = wR z5 6 (upd (gF z5 6) (gF z5 2 v3.toNatClampNeg).toNatClampNeg (gF z5 3 v3.toNatClampNeg)) → K8 v3 z12)))))))))) → K4 v3 z5) → K4 ((0 : Int32)) z1)))
set_option maxHeartbeats 4000000 in
set_option maxRecDepth 100000 in
theorem m_X3_lay_6 (l : Launch) (D : va_G) (t : Ty3) (a : Nat → Nat) (b2 : Int32) (z : St) (P : St → Prop) (hw : wp_X3_lay_6 b2 z P) : CtV l D t yX3_lay cX3_lay 4 none 1 (wX t a) (wX t a z) [.ref (a 1), .ref (a 6), .int b2] P := by
  refine ctV_of (by decide) (Nat.le_of_ble_eq_true rfl) ?_
  intro p e s m args below meth c A ls C hr hlk h hl
  have hl : lv_has ls 4 [(0, .ref (a 1)), (1, .ref (a 6)), (2, .int b2)] := hl
  unfold wp_X3_lay_6 at hw
  refine lv_aload_n (pc := 0) C.1 C.2.1 dX3_lay_0 rfl (lv_at hl 1 rfl) ?_
  refine lv_aload_n (pc := 1) C.1 C.2.1 dX3_lay_1 rfl (lv_at hl 0 rfl) ?_
  refine GX_X3_31_1 (pc := 2) C h dX3_lay_2 ?_
  refine cl_sv (pc := 5) (As := [.ref (a 6), .int (gI z 106)]) (rest := []) C h (m_J7_fill_53178_6 l D t a (gI z 106) z _ hw) mw_J7_fill_53178 lm_X3_34 md_J7_fill_53178 ⟨by decide, by decide⟩ ⟨Nat.zero_le _, Nat.zero_le _⟩ hl.1 rfl (Nat.le_of_ble_eq_true rfl) dX3_lay_5 (fun z1 H locs hw h => ?_)
  refine lv_iconst (v := 0) (pc := 8) C.1 C.2.1 dX3_lay_8 (by decide) ?_
  have hw := hw (fun (v3 : Int32) (z5 : St) => ∀ (H : Heap) (locs : List Loc) (ls : Array Slot), wd D t A s (wX t a z5) H locs → lv_has ls 4 [(0, .ref (a 1)), (1, .ref (a 6)), (2, .int b2), (3, .int v3)] → W p l e (rmd 1) s m args below meth c H locs 0 0 (QV D t A (wX t a) P below args s) (F0 m 10 ls [])) (by
      intro v3 z5 hw H locs ls h hl
      refine lv_iload_n (pc := 10) C.1 C.2.1 dX3_lay_10 rfl (lv_at hl 3 rfl) ?_
      refine lv_aload_n (pc := 11) C.1 C.2.1 dX3_lay_11 rfl (lv_at hl 0 rfl) ?_
      refine GX_X3_27_1 (pc := 12) C h dX3_lay_12 ?_
      refine lv_icmp_ge (tgt := 48) (pc := 15) C.1 C.2.1 dX3_lay_15 (by decide) (fun c6 => ?_) (fun c6 => ?_)
      · have hw := hw.1 c6
        exact rt_v (pc := 48) C hr hlk h hw dX3_lay_48
      · have hw := hw.2 c6
        refine lv_aload_n (pc := 18) C.1 C.2.1 dX3_lay_18 rfl (lv_at hl 0 rfl) ?_
        refine GX_X3_18_1 (pc := 19) C h dX3_lay_19 ?_
        refine lv_iload_n (pc := 22) C.1 C.2.1 dX3_lay_22 rfl (lv_at hl 3 rfl) ?_
        refine ldX_4 (pc := 23) C h hw.1 dX3_lay_23 ?_
        have hw := hw.2
        refine lv_iload_n (pc := 24) C.1 C.2.1 dX3_lay_24 rfl (lv_at hl 2 rfl) ?_
        have hw := hw (fun (v7 : Int32) (z9 : St) => ∀ (H : Heap) (locs : List Loc) (ls : Array Slot), wd D t A s (wX t a z9) H locs → lv_has ls 4 [(0, .ref (a 1)), (1, .ref (a 6)), (2, .int b2), (3, .int v7)] → W p l e (rmd 1) s m args below meth c H locs 0 0 (QV D t A (wX t a) P below args s) (F0 m 42 ls [])) (by
            intro v7 z9 hw H locs ls h hl
            obtain ⟨x10, ex10⟩ : ∃ y : Int32, y = v7 + (1) := ⟨_, rfl⟩
            have hw := hw x10 ex10
            refine lv_iinc (v := x10) (lv' := [(3, .int x10), (0, .ref (a 1)), (1, .ref (a 6)), (2, .int b2)]) (pc := 42) C.1 C.2.1 dX3_lay_42 hl (k := 3) rfl (by rw [ex10]; rfl) (by decide) rfl (fun ls hl => ?_)
            refine lv_goto (tgt := 10) (pc := 45) C.1 C.2.1 dX3_lay_45 (by decide) ?_
            exact hw _ _ _ h (lv_sub hl [1, 2, 3, 0] rfl))
        refine lv_icmp_gt (tgt := 42) (pc := 25) C.1 C.2.1 dX3_lay_25 (by decide) (fun c11 => ?_) (fun c11 => ?_)
        · have hw := hw.1 c11
          exact hw _ _ _ h (lv_sub hl [0, 1, 2, 3] rfl)
        · have hw := hw.2 c11
          refine lv_aload_n (pc := 28) C.1 C.2.1 dX3_lay_28 rfl (lv_at hl 1 rfl) ?_
          refine lv_aload_n (pc := 29) C.1 C.2.1 dX3_lay_29 rfl (lv_at hl 0 rfl) ?_
          refine GX_X3_9_1 (pc := 30) C h dX3_lay_30 ?_
          refine lv_iload_n (pc := 33) C.1 C.2.1 dX3_lay_33 rfl (lv_at hl 3 rfl) ?_
          refine ldX_2 (pc := 34) C h hw.1 dX3_lay_34 ?_
          have hw := hw.2
          refine lv_aload_n (pc := 35) C.1 C.2.1 dX3_lay_35 rfl (lv_at hl 0 rfl) ?_
          refine GX_X3_15_1 (pc := 36) C h dX3_lay_36 ?_
          refine lv_iload_n (pc := 39) C.1 C.2.1 dX3_lay_39 rfl (lv_at hl 3 rfl) ?_
          refine ldX_3 (pc := 40) C h hw.1 dX3_lay_40 ?_
          have hw := hw.2
          refine stX_6 (pc := 41) C h hw.1 dX3_lay_41 (fun z12 ez12 H locs h => ?_)
          have hw := hw.2 z12 ez12
          exact hw _ _ _ h (lv_sub hl [0, 1, 2, 3] rfl))
  refine lv_istore_n (lv' := [(3, .int ((0 : Int32))), (0, .ref (a 1)), (1, .ref (a 6)), (2, .int b2)]) (pc := 9) C.1 C.2.1 dX3_lay_9 rfl hl (by decide) rfl (fun ls hl => ?_)
  exact hw _ _ _ h (lv_sub hl [1, 2, 3, 0] rfl)

def wp_X1_costFrom_6 (b1 : Int32) (b2 : Int32) (z : St) (P : Int64 → St → Prop) : Prop :=
  (∀ K3 : Int64 → Int32 → St → Prop, (∀ (v1 : Int64) (v2 : Int32) (z4 : St), (vp_in b1 16 ∧ ((((gF z4 17 b1.toNatClampNeg) ≤ v2) → P v1 z4) ∧ (¬ ((gF z4 17 b1.toNatClampNeg) ≤ v2) → (((((168 : Int32)) ≤ (b2 + v2)) → P v1 z4) ∧ (¬ (((168 : Int32)) ≤ (b2 + v2)) → (vp_in ((b1 * ((4 : Int32))) + v2) 64 ∧ (vp_in (b2 + v2) 168 ∧ (∀ x7 : Int64, x7 = v1 + (Int32.toInt64 ((gF z4 18 ((b1 * ((4 : Int32))) + v2).toNatClampNeg) * (gF z4 6 (b2 + v2).toNatClampNeg))) → (∀ x8 : Int32, x8 = v2 + (1) → K3 x7 x8 z4))))))))) → K3 v1 v2 z4) → K3 ((0 : Int64)) ((0 : Int32)) z)
set_option maxHeartbeats 4000000 in
set_option maxRecDepth 100000 in
theorem m_X1_costFrom_6 (l : Launch) (D : va_G) (t : Ty3) (a : Nat → Nat) (b1 : Int32) (b2 : Int32) (z : St) (P : Int64 → St → Prop) (hw : wp_X1_costFrom_6 b1 b2 z P) : CtL l D t yX1_costFrom cX1_costFrom 7 (some .long) 0 (wX t a) (wX t a z) [.ref (a 13), .int b1, .int b2, .ref (a 6)] P := by
  refine ctL_of (by decide) (Nat.le_of_ble_eq_true rfl) ?_
  intro p e s m args below meth c A ls C hr hlk h hl
  have hl : lv_has ls 7 [(0, .ref (a 13)), (1, .int b1), (2, .int b2), (3, .ref (a 6))] := hl
  unfold wp_X1_costFrom_6 at hw
  refine lv_lconst (v := 0) (pc := 0) C.1 C.2.1 dX1_costFrom_0 (by decide) ?_
  refine lv_lstore (lv' := [(4, .long ((0 : Int64))), (0, .ref (a 13)), (1, .int b1), (2, .int b2), (3, .ref (a 6))]) (pc := 1) C.1 C.2.1 dX1_costFrom_1 hl (by decide) rfl (fun ls hl => ?_)
  refine lv_iconst (v := 0) (pc := 3) C.1 C.2.1 dX1_costFrom_3 (by decide) ?_
  have hw := hw (fun (v1 : Int64) (v2 : Int32) (z4 : St) => ∀ (H : Heap) (locs : List Loc) (ls : Array Slot), wd D t A s (wX t a z4) H locs → lv_has ls 7 [(0, .ref (a 13)), (1, .int b1), (2, .int b2), (3, .ref (a 6)), (4, .long v1), (6, .int v2)] → W p l e (rmd 0) s m args below meth c H locs 0 0 (QL D t A (wX t a) P below args s) (F0 m 6 ls [])) (by
      intro v1 v2 z4 hw H locs ls h hl
      refine lv_iload (pc := 6) C.1 C.2.1 dX1_costFrom_6 (lv_at hl 5 rfl) ?_
      refine lv_aload_n (pc := 8) C.1 C.2.1 dX1_costFrom_8 rfl (lv_at hl 0 rfl) ?_
      refine GX_X1_21_13 (pc := 9) C h dX1_costFrom_9 ?_
      refine lv_iload_n (pc := 12) C.1 C.2.1 dX1_costFrom_12 rfl (lv_at hl 1 rfl) ?_
      refine ldX_17 (pc := 13) C h hw.1 dX1_costFrom_13 ?_
      have hw := hw.2
      refine lv_icmp_ge (tgt := 57) (pc := 14) C.1 C.2.1 dX1_costFrom_14 (by decide) (fun c5 => ?_) (fun c5 => ?_)
      · have hw := hw.1 c5
        refine lv_lload (pc := 57) C.1 C.2.1 dX1_costFrom_57 (lv_at hl 4 rfl) ?_
        exact rt_l (pc := 59) C hr hlk h hw dX1_costFrom_59
      · have hw := hw.2 c5
        refine lv_iload_n (pc := 17) C.1 C.2.1 dX1_costFrom_17 rfl (lv_at hl 2 rfl) ?_
        refine lv_iload (pc := 18) C.1 C.2.1 dX1_costFrom_18 (lv_at hl 5 rfl) ?_
        refine lv_iadd (pc := 20) C.1 C.2.1 dX1_costFrom_20 ?_
        refine lv_sipush (v := 168) (pc := 21) C.1 C.2.1 dX1_costFrom_21 (by decide) ?_
        refine lv_icmp_ge (tgt := 57) (pc := 24) C.1 C.2.1 dX1_costFrom_24 (by decide) (fun c6 => ?_) (fun c6 => ?_)
        · have hw := hw.1 c6
          refine lv_lload (pc := 57) C.1 C.2.1 dX1_costFrom_57 (lv_at hl 4 rfl) ?_
          exact rt_l (pc := 59) C hr hlk h hw dX1_costFrom_59
        · have hw := hw.2 c6
          refine lv_lload (pc := 27) C.1 C.2.1 dX1_costFrom_27 (lv_at hl 4 rfl) ?_
          refine lv_aload_n (pc := 29) C.1 C.2.1 dX1_costFrom_29 rfl (lv_at hl 0 rfl) ?_
          refine GX_X1_24_13 (pc := 30) C h dX1_costFrom_30 ?_
          refine lv_iload_n (pc := 33) C.1 C.2.1 dX1_costFrom_33 rfl (lv_at hl 1 rfl) ?_
          refine lv_iconst (v := 4) (pc := 34) C.1 C.2.1 dX1_costFrom_34 (by decide) ?_
          refine lv_imul (pc := 35) C.1 C.2.1 dX1_costFrom_35 ?_
          refine lv_iload (pc := 36) C.1 C.2.1 dX1_costFrom_36 (lv_at hl 5 rfl) ?_
          refine lv_iadd (pc := 38) C.1 C.2.1 dX1_costFrom_38 ?_
          refine ldX_18 (pc := 39) C h hw.1 dX1_costFrom_39 ?_
          have hw := hw.2
          refine lv_aload_n (pc := 40) C.1 C.2.1 dX1_costFrom_40 rfl (lv_at hl 3 rfl) ?_
          refine lv_iload_n (pc := 41) C.1 C.2.1 dX1_costFrom_41 rfl (lv_at hl 2 rfl) ?_
          refine lv_iload (pc := 42) C.1 C.2.1 dX1_costFrom_42 (lv_at hl 5 rfl) ?_
          refine lv_iadd (pc := 44) C.1 C.2.1 dX1_costFrom_44 ?_
          refine ldX_6 (pc := 45) C h hw.1 dX1_costFrom_45 ?_
          have hw := hw.2
          refine lv_imul (pc := 46) C.1 C.2.1 dX1_costFrom_46 ?_
          refine lv_i2l (pc := 47) C.1 C.2.1 dX1_costFrom_47 rfl ?_
          refine lv_ladd (pc := 48) C.1 C.2.1 dX1_costFrom_48 ?_
          refine lv_topl (fun x7 ex7 => ?_)
          have hw := hw x7 ex7
          refine lv_lstore (lv' := [(4, .long x7), (0, .ref (a 13)), (1, .int b1), (2, .int b2), (3, .ref (a 6)), (6, .int v2)]) (pc := 49) C.1 C.2.1 dX1_costFrom_49 hl (by decide) rfl (fun ls hl => ?_)
          obtain ⟨x8, ex8⟩ : ∃ y : Int32, y = v2 + (1) := ⟨_, rfl⟩
          have hw := hw x8 ex8
          refine lv_iinc (v := x8) (lv' := [(6, .int x8), (4, .long x7), (0, .ref (a 13)), (1, .int b1), (2, .int b2), (3, .ref (a 6))]) (pc := 51) C.1 C.2.1 dX1_costFrom_51 hl (k := 5) rfl (by rw [ex8]; rfl) (by decide) rfl (fun ls hl => ?_)
          refine lv_goto (tgt := 6) (pc := 54) C.1 C.2.1 dX1_costFrom_54 (by decide) ?_
          exact hw _ _ _ h (lv_sub hl [2, 3, 4, 5, 1, 0] rfl))
  refine lv_istore (lv' := [(6, .int ((0 : Int32))), (4, .long ((0 : Int64))), (0, .ref (a 13)), (1, .int b1), (2, .int b2), (3, .ref (a 6))]) (pc := 4) C.1 C.2.1 dX1_costFrom_4 hl (by decide) rfl (fun ls hl => ?_)
  exact hw _ _ _ h (lv_sub hl [2, 3, 4, 5, 1, 0] rfl)
