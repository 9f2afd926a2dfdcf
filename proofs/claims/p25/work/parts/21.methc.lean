def wp_X1_plan (b1 : Int32) (b2 : Int32) (z : St) (P : St → Prop) : Prop :=
  (vp_in b1 16 ∧ (∀ z1 : St, z1 = wR z 19 (upd (gF z 19) b1.toNatClampNeg ((1 : Int32))) → (vp_in b1 16 ∧ (∀ z2 : St, z2 = wR z1 20 (upd (gF z1 20) b1.toNatClampNeg b2) → (wp_X1_draw b1 b2 ((1 : Int32)) z2 (fun z3 => P z3))))))
set_option maxHeartbeats 4000000 in
set_option maxRecDepth 100000 in
theorem m_X1_plan (l : Launch) (D : va_G) (t : Ty3) (a : Nat → Nat) (b1 : Int32) (b2 : Int32) (z : St) (P : St → Prop) (hw : wp_X1_plan b1 b2 z P) : CtV l D t yX1_plan cX1_plan 3 none 2 (wX t a) (wX t a z) [.ref (a 13), .int b1, .int b2] P := by
  refine ctV_of (by decide) (Nat.le_of_ble_eq_true rfl) ?_
  intro p e s m args below meth c A ls C hr hlk h hl
  have hl : lv_has ls 3 [(0, .ref (a 13)), (1, .int b1), (2, .int b2)] := hl
  unfold wp_X1_plan at hw
  refine lv_aload_n (pc := 0) C.1 C.2.1 dX1_plan_0 rfl (lv_at hl 0 rfl) ?_
  refine GX_X1_27_13 (pc := 1) C h dX1_plan_1 ?_
  refine lv_iload_n (pc := 4) C.1 C.2.1 dX1_plan_4 rfl (lv_at hl 1 rfl) ?_
  refine lv_iconst (v := 1) (pc := 5) C.1 C.2.1 dX1_plan_5 (by decide) ?_
  refine stX_19 (pc := 6) C h hw.1 dX1_plan_6 (fun z1 ez1 H locs h => ?_)
  have hw := hw.2 z1 ez1
  refine lv_aload_n (pc := 7) C.1 C.2.1 dX1_plan_7 rfl (lv_at hl 0 rfl) ?_
  refine GX_X1_30_13 (pc := 8) C h dX1_plan_8 ?_
  refine lv_iload_n (pc := 11) C.1 C.2.1 dX1_plan_11 rfl (lv_at hl 1 rfl) ?_
  refine lv_iload_n (pc := 12) C.1 C.2.1 dX1_plan_12 rfl (lv_at hl 2 rfl) ?_
  refine stX_20 (pc := 13) C h hw.1 dX1_plan_13 (fun z2 ez2 H locs h => ?_)
  have hw := hw.2 z2 ez2
  refine lv_aload_n (pc := 14) C.1 C.2.1 dX1_plan_14 rfl (lv_at hl 0 rfl) ?_
  refine lv_iload_n (pc := 15) C.1 C.2.1 dX1_plan_15 rfl (lv_at hl 1 rfl) ?_
  refine lv_iload_n (pc := 16) C.1 C.2.1 dX1_plan_16 rfl (lv_at hl 2 rfl) ?_
  refine lv_iconst (v := 1) (pc := 17) C.1 C.2.1 dX1_plan_17 (by decide) ?_
  refine cl_vv (pc := 18) (As := [.int b1, .int b2, .int ((1 : Int32))]) (rest := []) C h (m_X1_draw l D t a b1 b2 ((1 : Int32)) z2 _ hw) mw_X1_draw lm_X1_41 md_X1_draw rcX_13 ⟨by decide, by decide⟩ ⟨Nat.zero_le _, Nat.zero_le _⟩ hl.1 rfl (Nat.le_of_ble_eq_true rfl) dX1_plan_18 (fun z3 H locs hw h => ?_)
  exact rt_v (pc := 21) C hr hlk h hw dX1_plan_21

def wp_X2_mayBeginAsOpen (b1 : Int32) (b2 : Int32) (z : St) (P : Int32 → St → Prop) : Prop :=
  (vp_in b1 16 ∧ (∀ x1 : Int32, x1 = gF z 20 b1.toNatClampNeg → (wp_X1_reopen b1 z (fun z2 => (wp_X2_mayBegin b1 b2 z2 (fun r5 => (((x1 = ((-1 : Int32))) → ((r5 = 0 ∨ r5 = 1) ∧ P r5 z2)) ∧ (¬ (x1 = ((-1 : Int32))) → (wp_X1_plan b1 x1 z2 (fun z7 => ((r5 = 0 ∨ r5 = 1) ∧ P r5 z7)))))))))))
set_option maxHeartbeats 4000000 in
set_option maxRecDepth 100000 in
theorem m_X2_mayBeginAsOpen (l : Launch) (D : va_G) (t : Ty3) (a : Nat → Nat) (b1 : Int32) (b2 : Int32) (z : St) (P : Int32 → St → Prop) (hw : wp_X2_mayBeginAsOpen b1 b2 z P) : CtI l D t yX2_mayBeginAsOpen cX2_mayBeginAsOpen 5 (some .boolean) 4 (wX t a) (wX t a z) [.ref (a 21), .int b1, .int b2] P := by
  refine ctI_of (by decide) (Nat.le_of_ble_eq_true rfl) ?_
  intro p e s m args below meth c A ls C hr hlk h hl
  have hl : lv_has ls 5 [(0, .ref (a 21)), (1, .int b1), (2, .int b2)] := hl
  unfold wp_X2_mayBeginAsOpen at hw
  refine lv_aload_n (pc := 0) C.1 C.2.1 dX2_mayBeginAsOpen_0 rfl (lv_at hl 0 rfl) ?_
  refine GX_X2_15_21 (pc := 1) C h dX2_mayBeginAsOpen_1 ?_
  refine GX_X2_39_13 (pc := 4) C h dX2_mayBeginAsOpen_4 ?_
  refine lv_iload_n (pc := 7) C.1 C.2.1 dX2_mayBeginAsOpen_7 rfl (lv_at hl 1 rfl) ?_
  refine ldX_20 (pc := 8) C h hw.1 dX2_mayBeginAsOpen_8 ?_
  have hw := hw.2
  refine lv_topi (fun x1 ex1 => ?_)
  have hw := hw x1 ex1
  refine lv_istore_n (lv' := [(3, .int x1), (0, .ref (a 21)), (1, .int b1), (2, .int b2)]) (pc := 9) C.1 C.2.1 dX2_mayBeginAsOpen_9 rfl hl (by decide) rfl (fun ls hl => ?_)
  refine lv_aload_n (pc := 10) C.1 C.2.1 dX2_mayBeginAsOpen_10 rfl (lv_at hl 1 rfl) ?_
  refine GX_X2_15_21 (pc := 11) C h dX2_mayBeginAsOpen_11 ?_
  refine lv_iload_n (pc := 14) C.1 C.2.1 dX2_mayBeginAsOpen_14 rfl (lv_at hl 2 rfl) ?_
  refine cl_vv (pc := 15) (As := [.int b1]) (rest := []) C h (m_X1_reopen l D t a b1 z _ hw) mw_X1_reopen lm_X2_45 md_X1_reopen rcX_13 ⟨by decide, by decide⟩ ⟨Nat.zero_le _, Nat.zero_le _⟩ hl.1 rfl (Nat.le_of_ble_eq_true rfl) dX2_mayBeginAsOpen_15 (fun z2 H locs hw h => ?_)
  refine lv_aload_n (pc := 18) C.1 C.2.1 dX2_mayBeginAsOpen_18 rfl (lv_at hl 1 rfl) ?_
  refine lv_iload_n (pc := 19) C.1 C.2.1 dX2_mayBeginAsOpen_19 rfl (lv_at hl 2 rfl) ?_
  refine lv_iload_n (pc := 20) C.1 C.2.1 dX2_mayBeginAsOpen_20 rfl (lv_at hl 3 rfl) ?_
  refine cl_vi (pc := 21) (As := [.int b1, .int b2]) (rest := []) C h (m_X2_mayBegin l D t a b1 b2 z2 _ hw) mw_X2_mayBegin lm_X2_49 md_X2_mayBegin rcX_21 ⟨by decide, by decide⟩ ⟨Nat.zero_le _, Nat.zero_le _⟩ hl.1 rfl (Nat.le_of_ble_eq_true rfl) dX2_mayBeginAsOpen_21 (fun r5 z4 H locs hw h => ?_)
  rw [hw.1] at h
  have hw := hw.2
  refine lv_istore (lv' := [(4, .int r5), (3, .int x1), (0, .ref (a 21)), (1, .int b1), (2, .int b2)]) (pc := 24) C.1 C.2.1 dX2_mayBeginAsOpen_24 hl (by decide) rfl (fun ls hl => ?_)
  refine lv_iload_n (pc := 26) C.1 C.2.1 dX2_mayBeginAsOpen_26 rfl (lv_at hl 1 rfl) ?_
  refine lv_iconst (v := -1) (pc := 27) C.1 C.2.1 dX2_mayBeginAsOpen_27 (by decide) ?_
  refine lv_icmp_eq (tgt := 40) (pc := 28) C.1 C.2.1 dX2_mayBeginAsOpen_28 (by decide) (fun c6 => ?_) (fun c6 => ?_)
  · have hw := hw.1 c6
    refine lv_iload (pc := 40) C.1 C.2.1 dX2_mayBeginAsOpen_40 (lv_at hl 0 rfl) ?_
    exact rt_z (pc := 42) C hr hlk h hw.1 hw.2 dX2_mayBeginAsOpen_42
  · have hw := hw.2 c6
    refine lv_aload_n (pc := 31) C.1 C.2.1 dX2_mayBeginAsOpen_31 rfl (lv_at hl 2 rfl) ?_
    refine GX_X2_15_21 (pc := 32) C h dX2_mayBeginAsOpen_32 ?_
    refine lv_iload_n (pc := 35) C.1 C.2.1 dX2_mayBeginAsOpen_35 rfl (lv_at hl 3 rfl) ?_
    refine lv_iload_n (pc := 36) C.1 C.2.1 dX2_mayBeginAsOpen_36 rfl (lv_at hl 1 rfl) ?_
    refine cl_vv (pc := 37) (As := [.int b1, .int x1]) (rest := []) C h (m_X1_plan l D t a b1 x1 z2 _ hw) mw_X1_plan lm_X2_53 md_X1_plan rcX_13 ⟨by decide, by decide⟩ ⟨Nat.zero_le _, Nat.zero_le _⟩ hl.1 rfl (Nat.le_of_ble_eq_true rfl) dX2_mayBeginAsOpen_37 (fun z7 H locs hw h => ?_)
    refine lv_iload (pc := 40) C.1 C.2.1 dX2_mayBeginAsOpen_40 (lv_at hl 0 rfl) ?_
    exact rt_z (pc := 42) C hr hlk h hw.1 hw.2 dX2_mayBeginAsOpen_42

def wp_X8_may (b1 : Int32) (b2 : Int32) (z : St) (P : Int32 → St → Prop) : Prop :=
  (wp_X1_has b1 z (fun r2 => (((r2 = 0) → P ((-1 : Int32)) z) ∧ (¬ (r2 = 0) → (wp_X8_isHour b2 z (fun r5 => (((r5 = 0) → P ((-1 : Int32)) z) ∧ (¬ (r5 = 0) → (vp_in b1 16 ∧ (((¬ (gF z 19 b1.toNatClampNeg) = ((2 : Int32))) → (wp_X2_mayBeginAsOpen b1 b2 z (fun r9 z8 => (((r9 = 0) → P ((0 : Int32)) z8) ∧ (¬ (r9 = 0) → P ((1 : Int32)) z8))))) ∧ ((gF z 19 b1.toNatClampNeg) = ((2 : Int32)) → P ((-1 : Int32)) z)))))))))))
set_option maxHeartbeats 4000000 in
set_option maxRecDepth 100000 in
theorem m_X8_may (l : Launch) (D : va_G) (t : Ty3) (a : Nat → Nat) (b1 : Int32) (b2 : Int32) (z : St) (P : Int32 → St → Prop) (hw : wp_X8_may b1 b2 z P) : CtI l D t yX8_may cX8_may 3 (some .int) 5 (wX t a) (wX t a z) [.ref (a 0), .int b1, .int b2] P := by
  refine ctI_of (by decide) (Nat.le_of_ble_eq_true rfl) ?_
  intro p e s m args below meth c A ls C hr hlk h hl
  have hl : lv_has ls 3 [(0, .ref (a 0)), (1, .int b1), (2, .int b2)] := hl
  unfold wp_X8_may at hw
  refine lv_aload_n (pc := 0) C.1 C.2.1 dX8_may_0 rfl (lv_at hl 0 rfl) ?_
  refine GX_X8_28_0 (pc := 1) C h dX8_may_1 ?_
  refine lv_iload_n (pc := 4) C.1 C.2.1 dX8_may_4 rfl (lv_at hl 1 rfl) ?_
  refine cl_vi (pc := 5) (As := [.int b1]) (rest := []) C h (m_X1_has l D t a b1 z _ hw) mw_X1_has lm_X8_143 md_X1_has rcX_13 ⟨by decide, by decide⟩ ⟨Nat.zero_le _, Nat.zero_le _⟩ hl.1 rfl (Nat.le_of_ble_eq_true rfl) dX8_may_5 (fun r2 z1 H locs hw h => ?_)
  rw [hw.1] at h
  have hw := hw.2
  refine lv_if_eq (tgt := 31) (pc := 8) C.1 C.2.1 dX8_may_8 (by decide) (fun c3 => ?_) (fun c3 => ?_)
  · have hw := hw.1 c3
    refine lv_iconst (v := -1) (pc := 31) C.1 C.2.1 dX8_may_31 (by decide) ?_
    exact rt_i (pc := 32) C hr hlk h hw dX8_may_32
  · have hw := hw.2 c3
    refine lv_iload_n (pc := 11) C.1 C.2.1 dX8_may_11 rfl (lv_at hl 2 rfl) ?_
    refine cl_si (pc := 12) (As := [.int b2]) (rest := []) C h (m_X8_isHour l D t a b2 z _ hw) mw_X8_isHour lm_X8_71 md_X8_isHour ⟨by decide, by decide⟩ ⟨Nat.zero_le _, Nat.zero_le _⟩ hl.1 rfl (Nat.le_of_ble_eq_true rfl) dX8_may_12 (fun r5 z4 H locs hw h => ?_)
    rw [hw.1] at h
    have hw := hw.2
    refine lv_if_eq (tgt := 31) (pc := 15) C.1 C.2.1 dX8_may_15 (by decide) (fun c6 => ?_) (fun c6 => ?_)
    · have hw := hw.1 c6
      refine lv_iconst (v := -1) (pc := 31) C.1 C.2.1 dX8_may_31 (by decide) ?_
      exact rt_i (pc := 32) C hr hlk h hw dX8_may_32
    · have hw := hw.2 c6
      refine lv_aload_n (pc := 18) C.1 C.2.1 dX8_may_18 rfl (lv_at hl 0 rfl) ?_
      refine GX_X8_28_0 (pc := 19) C h dX8_may_19 ?_
      refine GX_X8_156_13 (pc := 22) C h dX8_may_22 ?_
      refine lv_iload_n (pc := 25) C.1 C.2.1 dX8_may_25 rfl (lv_at hl 1 rfl) ?_
      refine ldX_19 (pc := 26) C h hw.1 dX8_may_26 ?_
      have hw := hw.2
      refine lv_iconst (v := 2) (pc := 27) C.1 C.2.1 dX8_may_27 (by decide) ?_
      refine lv_icmp_ne (tgt := 33) (pc := 28) C.1 C.2.1 dX8_may_28 (by decide) (fun c7 => ?_) (fun c7 => ?_)
      · have hw := hw.1 c7
        refine lv_aload_n (pc := 33) C.1 C.2.1 dX8_may_33 rfl (lv_at hl 0 rfl) ?_
        refine GX_X8_37_0 (pc := 34) C h dX8_may_34 ?_
        refine lv_iload_n (pc := 37) C.1 C.2.1 dX8_may_37 rfl (lv_at hl 1 rfl) ?_
        refine lv_iload_n (pc := 38) C.1 C.2.1 dX8_may_38 rfl (lv_at hl 2 rfl) ?_
        refine cl_vi (pc := 39) (As := [.int b1, .int b2]) (rest := []) C h (m_X2_mayBeginAsOpen l D t a b1 b2 z _ hw) mw_X2_mayBeginAsOpen lm_X8_165 md_X2_mayBeginAsOpen rcX_21 ⟨by decide, by decide⟩ ⟨Nat.zero_le _, Nat.zero_le _⟩ hl.1 rfl (Nat.le_of_ble_eq_true rfl) dX8_may_39 (fun r9 z8 H locs hw h => ?_)
        refine lv_if_eq (tgt := 49) (pc := 42) C.1 C.2.1 dX8_may_42 (by decide) (fun c10 => ?_) (fun c10 => ?_)
        · have hw := hw.1 c10
          refine lv_iconst (v := 0) (pc := 49) C.1 C.2.1 dX8_may_49 (by decide) ?_
          exact rt_i (pc := 50) C hr hlk h hw dX8_may_50
        · have hw := hw.2 c10
          refine lv_iconst (v := 1) (pc := 45) C.1 C.2.1 dX8_may_45 (by decide) ?_
          refine lv_goto (tgt := 50) (pc := 46) C.1 C.2.1 dX8_may_46 (by decide) ?_
          exact rt_i (pc := 50) C hr hlk h hw dX8_may_50
      · have hw := hw.2 c7
        refine lv_iconst (v := -1) (pc := 31) C.1 C.2.1 dX8_may_31 (by decide) ?_
        exact rt_i (pc := 32) C hr hlk h hw dX8_may_32

def wp_X8_put (b1 : Int32) (b2 : Int32) (z : St) (P : Int32 → St → Prop) : Prop :=
  (wp_X1_has b1 z (fun r2 => (((¬ r2 = 0) → (vp_in b1 16 ∧ (((¬ (gF z 19 b1.toNatClampNeg) = ((2 : Int32))) → (wp_X2_mayBeginAsOpen b1 b2 z (fun r6 z5 => (((¬ r6 = 0) → (wp_X1_reopen b1 z5 (fun z8 => (wp_X1_plan b1 b2 z8 (fun z10 => (wp_X8_accept ((0 : Int32)) z10 (fun r13 z12 => P r13 z12))))))) ∧ (r6 = 0 → (wp_X8_refuse ((-6 : Int32)) z5 (fun r15 z14 => P r15 z14))))))) ∧ ((gF z 19 b1.toNatClampNeg) = ((2 : Int32)) → (wp_X8_refuse ((-3 : Int32)) z (fun r17 z16 => P r17 z16)))))) ∧ (r2 = 0 → (wp_X8_refuse ((-2 : Int32)) z (fun r19 z18 => P r19 z18))))))
set_option maxHeartbeats 4000000 in
set_option maxRecDepth 100000 in
theorem m_X8_put (l : Launch) (D : va_G) (t : Ty3) (a : Nat → Nat) (b1 : Int32) (b2 : Int32) (z : St) (P : Int32 → St → Prop) (hw : wp_X8_put b1 b2 z P) : CtI l D t yX8_put cX8_put 3 (some .int) 5 (wX t a) (wX t a z) [.ref (a 0), .int b1, .int b2] P := by
  refine ctI_of (by decide) (Nat.le_of_ble_eq_true rfl) ?_
  intro p e s m args below meth c A ls C hr hlk h hl
  have hl : lv_has ls 3 [(0, .ref (a 0)), (1, .int b1), (2, .int b2)] := hl
  unfold wp_X8_put at hw
  refine lv_aload_n (pc := 0) C.1 C.2.1 dX8_put_0 rfl (lv_at hl 0 rfl) ?_
  refine GX_X8_28_0 (pc := 1) C h dX8_put_1 ?_
  refine lv_iload_n (pc := 4) C.1 C.2.1 dX8_put_4 rfl (lv_at hl 1 rfl) ?_
  refine cl_vi (pc := 5) (As := [.int b1]) (rest := []) C h (m_X1_has l D t a b1 z _ hw) mw_X1_has lm_X8_143 md_X1_has rcX_13 ⟨by decide, by decide⟩ ⟨Nat.zero_le _, Nat.zero_le _⟩ hl.1 rfl (Nat.le_of_ble_eq_true rfl) dX8_put_5 (fun r2 z1 H locs hw h => ?_)
  rw [hw.1] at h
  have hw := hw.2
  refine lv_if_ne (tgt := 18) (pc := 8) C.1 C.2.1 dX8_put_8 (by decide) (fun c3 => ?_) (fun c3 => ?_)
  · have hw := hw.1 c3
    refine lv_aload_n (pc := 18) C.1 C.2.1 dX8_put_18 rfl (lv_at hl 0 rfl) ?_
    refine GX_X8_28_0 (pc := 19) C h dX8_put_19 ?_
    refine GX_X8_156_13 (pc := 22) C h dX8_put_22 ?_
    refine lv_iload_n (pc := 25) C.1 C.2.1 dX8_put_25 rfl (lv_at hl 1 rfl) ?_
    refine ldX_19 (pc := 26) C h hw.1 dX8_put_26 ?_
    have hw := hw.2
    refine lv_iconst (v := 2) (pc := 27) C.1 C.2.1 dX8_put_27 (by decide) ?_
    refine lv_icmp_ne (tgt := 38) (pc := 28) C.1 C.2.1 dX8_put_28 (by decide) (fun c4 => ?_) (fun c4 => ?_)
    · have hw := hw.1 c4
      refine lv_aload_n (pc := 38) C.1 C.2.1 dX8_put_38 rfl (lv_at hl 0 rfl) ?_
      refine GX_X8_37_0 (pc := 39) C h dX8_put_39 ?_
      refine lv_iload_n (pc := 42) C.1 C.2.1 dX8_put_42 rfl (lv_at hl 1 rfl) ?_
      refine lv_iload_n (pc := 43) C.1 C.2.1 dX8_put_43 rfl (lv_at hl 2 rfl) ?_
      refine cl_vi (pc := 44) (As := [.int b1, .int b2]) (rest := []) C h (m_X2_mayBeginAsOpen l D t a b1 b2 z _ hw) mw_X2_mayBeginAsOpen lm_X8_165 md_X2_mayBeginAsOpen rcX_21 ⟨by decide, by decide⟩ ⟨Nat.zero_le _, Nat.zero_le _⟩ hl.1 rfl (Nat.le_of_ble_eq_true rfl) dX8_put_44 (fun r6 z5 H locs hw h => ?_)
      refine lv_if_ne (tgt := 57) (pc := 47) C.1 C.2.1 dX8_put_47 (by decide) (fun c7 => ?_) (fun c7 => ?_)
      · have hw := hw.1 c7
        refine lv_aload_n (pc := 57) C.1 C.2.1 dX8_put_57 rfl (lv_at hl 0 rfl) ?_
        refine GX_X8_28_0 (pc := 58) C h dX8_put_58 ?_
        refine lv_iload_n (pc := 61) C.1 C.2.1 dX8_put_61 rfl (lv_at hl 1 rfl) ?_
        refine cl_vv (pc := 62) (As := [.int b1]) (rest := []) C h (m_X1_reopen l D t a b1 z5 _ hw) mw_X1_reopen lm_X8_168 md_X1_reopen rcX_13 ⟨by decide, by decide⟩ ⟨Nat.zero_le _, Nat.zero_le _⟩ hl.1 rfl (Nat.le_of_ble_eq_true rfl) dX8_put_62 (fun z8 H locs hw h => ?_)
        refine lv_aload_n (pc := 65) C.1 C.2.1 dX8_put_65 rfl (lv_at hl 0 rfl) ?_
        refine GX_X8_28_0 (pc := 66) C h dX8_put_66 ?_
        refine lv_iload_n (pc := 69) C.1 C.2.1 dX8_put_69 rfl (lv_at hl 1 rfl) ?_
        refine lv_iload_n (pc := 70) C.1 C.2.1 dX8_put_70 rfl (lv_at hl 2 rfl) ?_
        refine cl_vv (pc := 71) (As := [.int b1, .int b2]) (rest := []) C h (m_X1_plan l D t a b1 b2 z8 _ hw) mw_X1_plan lm_X8_172 md_X1_plan rcX_13 ⟨by decide, by decide⟩ ⟨Nat.zero_le _, Nat.zero_le _⟩ hl.1 rfl (Nat.le_of_ble_eq_true rfl) dX8_put_71 (fun z10 H locs hw h => ?_)
        refine lv_aload_n (pc := 74) C.1 C.2.1 dX8_put_74 rfl (lv_at hl 0 rfl) ?_
        refine lv_iconst (v := 0) (pc := 75) C.1 C.2.1 dX8_put_75 (by decide) ?_
        refine cl_vi (pc := 76) (As := [.int ((0 : Int32))]) (rest := []) C h (m_X8_accept l D t a ((0 : Int32)) z10 _ hw) mw_X8_accept lm_X8_99 md_X8_accept rcX_0 ⟨by decide, by decide⟩ ⟨Nat.zero_le _, Nat.zero_le _⟩ hl.1 rfl (Nat.le_of_ble_eq_true rfl) dX8_put_76 (fun r13 z12 H locs hw h => ?_)
        exact rt_i (pc := 79) C hr hlk h hw dX8_put_79
      · have hw := hw.2 c7
        refine lv_aload_n (pc := 50) C.1 C.2.1 dX8_put_50 rfl (lv_at hl 0 rfl) ?_
        refine lv_bipush (v := -6) (pc := 51) C.1 C.2.1 dX8_put_51 (by decide) ?_
        refine cl_vi (pc := 53) (As := [.int ((-6 : Int32))]) (rest := []) C h (m_X8_refuse l D t a ((-6 : Int32)) z5 _ hw) mw_X8_refuse lm_X8_81 md_X8_refuse rcX_0 ⟨by decide, by decide⟩ ⟨Nat.zero_le _, Nat.zero_le _⟩ hl.1 rfl (Nat.le_of_ble_eq_true rfl) dX8_put_53 (fun r15 z14 H locs hw h => ?_)
        exact rt_i (pc := 56) C hr hlk h hw dX8_put_56
    · have hw := hw.2 c4
      refine lv_aload_n (pc := 31) C.1 C.2.1 dX8_put_31 rfl (lv_at hl 0 rfl) ?_
      refine lv_bipush (v := -3) (pc := 32) C.1 C.2.1 dX8_put_32 (by decide) ?_
      refine cl_vi (pc := 34) (As := [.int ((-3 : Int32))]) (rest := []) C h (m_X8_refuse l D t a ((-3 : Int32)) z _ hw) mw_X8_refuse lm_X8_81 md_X8_refuse rcX_0 ⟨by decide, by decide⟩ ⟨Nat.zero_le _, Nat.zero_le _⟩ hl.1 rfl (Nat.le_of_ble_eq_true rfl) dX8_put_34 (fun r17 z16 H locs hw h => ?_)
      exact rt_i (pc := 37) C hr hlk h hw dX8_put_37
  · have hw := hw.2 c3
    refine lv_aload_n (pc := 11) C.1 C.2.1 dX8_put_11 rfl (lv_at hl 0 rfl) ?_
    refine lv_bipush (v := -2) (pc := 12) C.1 C.2.1 dX8_put_12 (by decide) ?_
    refine cl_vi (pc := 14) (As := [.int ((-2 : Int32))]) (rest := []) C h (m_X8_refuse l D t a ((-2 : Int32)) z _ hw) mw_X8_refuse lm_X8_81 md_X8_refuse rcX_0 ⟨by decide, by decide⟩ ⟨Nat.zero_le _, Nat.zero_le _⟩ hl.1 rfl (Nat.le_of_ble_eq_true rfl) dX8_put_14 (fun r19 z18 H locs hw h => ?_)
    exact rt_i (pc := 17) C hr hlk h hw dX8_put_17

def wp_X1_inState (b1 : Int32) (z : St) (P : Int32 → Prop) : Prop :=
  (∀ K3 : Int32 → Int32 → Prop, (∀ (v1 : Int32) (v2 : Int32), ((((gI z 1308) ≤ v2) → P v1) ∧ (¬ ((gI z 1308) ≤ v2) → (vp_in v2 16 ∧ (∀ K6 : Int32 → Prop, (∀ (v5 : Int32), (∀ x7 : Int32, x7 = v2 + (1) → K3 v5 x7) → K6 v5) → (((¬ (gF z 19 v2.toNatClampNeg) = b1) → K6 v1) ∧ ((gF z 19 v2.toNatClampNeg) = b1 → (∀ x9 : Int32, x9 = v1 + (1) → K6 x9))))))) → K3 v1 v2) → K3 ((0 : Int32)) ((0 : Int32)))
set_option maxHeartbeats 4000000 in
set_option maxRecDepth 100000 in
theorem m_X1_inState (l : Launch) (D : va_G) (t : Ty3) (a : Nat → Nat) (b1 : Int32) (z : St) (P : Int32 → Prop) (hw : wp_X1_inState b1 z P) : CtI l D t yX1_inState cX1_inState 4 (some .int) 0 (wX t a) (wX t a z) [.ref (a 13), .int b1] (fun rr zz => zz = z ∧ P rr) := by
  refine ctI_of (by decide) (Nat.le_of_ble_eq_true rfl) ?_
  intro p e s m args below meth c A ls C hr hlk h hl
  have hl : lv_has ls 4 [(0, .ref (a 13)), (1, .int b1)] := hl
  unfold wp_X1_inState at hw
  refine lv_iconst (v := 0) (pc := 0) C.1 C.2.1 dX1_inState_0 (by decide) ?_
  refine lv_istore_n (lv' := [(2, .int ((0 : Int32))), (0, .ref (a 13)), (1, .int b1)]) (pc := 1) C.1 C.2.1 dX1_inState_1 rfl hl (by decide) rfl (fun ls hl => ?_)
  refine lv_iconst (v := 0) (pc := 2) C.1 C.2.1 dX1_inState_2 (by decide) ?_
  have hw := hw (fun (v1 : Int32) (v2 : Int32) => ∀ (H : Heap) (locs : List Loc) (ls : Array Slot), wd D t A s (wX t a z) H locs → lv_has ls 4 [(0, .ref (a 13)), (1, .int b1), (2, .int v1), (3, .int v2)] → W p l e (rmd 0) s m args below meth c H locs 0 0 (QI D t A (wX t a) (fun rr zz => zz = z ∧ P rr) below args s) (F0 m 4 ls [])) (by
      intro v1 v2 hw H locs ls h hl
      refine lv_iload_n (pc := 4) C.1 C.2.1 dX1_inState_4 rfl (lv_at hl 3 rfl) ?_
      refine lv_aload_n (pc := 5) C.1 C.2.1 dX1_inState_5 rfl (lv_at hl 0 rfl) ?_
      refine GX_X1_37_13 (pc := 6) C h dX1_inState_6 ?_
      refine lv_icmp_ge (tgt := 31) (pc := 9) C.1 C.2.1 dX1_inState_9 (by decide) (fun c4 => ?_) (fun c4 => ?_)
      · have hw := hw.1 c4
        refine lv_iload_n (pc := 31) C.1 C.2.1 dX1_inState_31 rfl (lv_at hl 2 rfl) ?_
        exact rt_i (pc := 32) C hr hlk h ⟨rfl, hw⟩ dX1_inState_32
      · have hw := hw.2 c4
        refine lv_aload_n (pc := 12) C.1 C.2.1 dX1_inState_12 rfl (lv_at hl 0 rfl) ?_
        refine GX_X1_27_13 (pc := 13) C h dX1_inState_13 ?_
        refine lv_iload_n (pc := 16) C.1 C.2.1 dX1_inState_16 rfl (lv_at hl 3 rfl) ?_
        refine ldX_19 (pc := 17) C h hw.1 dX1_inState_17 ?_
        have hw := hw.2
        refine lv_iload_n (pc := 18) C.1 C.2.1 dX1_inState_18 rfl (lv_at hl 1 rfl) ?_
        have hw := hw (fun (v5 : Int32) => ∀ (H : Heap) (locs : List Loc) (ls : Array Slot), wd D t A s (wX t a z) H locs → lv_has ls 4 [(0, .ref (a 13)), (1, .int b1), (2, .int v5), (3, .int v2)] → W p l e (rmd 0) s m args below meth c H locs 0 0 (QI D t A (wX t a) (fun rr zz => zz = z ∧ P rr) below args s) (F0 m 25 ls [])) (by
            intro v5 hw H locs ls h hl
            obtain ⟨x7, ex7⟩ : ∃ y : Int32, y = v2 + (1) := ⟨_, rfl⟩
            have hw := hw x7 ex7
            refine lv_iinc (v := x7) (lv' := [(3, .int x7), (0, .ref (a 13)), (1, .int b1), (2, .int v5)]) (pc := 25) C.1 C.2.1 dX1_inState_25 hl (k := 3) rfl (by rw [ex7]; rfl) (by decide) rfl (fun ls hl => ?_)
            refine lv_goto (tgt := 4) (pc := 28) C.1 C.2.1 dX1_inState_28 (by decide) ?_
            exact hw _ _ _ h (lv_sub hl [1, 2, 3, 0] rfl))
        refine lv_icmp_ne (tgt := 25) (pc := 19) C.1 C.2.1 dX1_inState_19 (by decide) (fun c8 => ?_) (fun c8 => ?_)
        · have hw := hw.1 c8
          exact hw _ _ _ h (lv_sub hl [0, 1, 2, 3] rfl)
        · have hw := hw.2 c8
          obtain ⟨x9, ex9⟩ : ∃ y : Int32, y = v1 + (1) := ⟨_, rfl⟩
          have hw := hw x9 ex9
          refine lv_iinc (v := x9) (lv' := [(2, .int x9), (0, .ref (a 13)), (1, .int b1), (3, .int v2)]) (pc := 22) C.1 C.2.1 dX1_inState_22 hl (k := 2) rfl (by rw [ex9]; rfl) (by decide) rfl (fun ls hl => ?_)
          exact hw _ _ _ h (lv_sub hl [1, 2, 0, 3] rfl))
  refine lv_istore_n (lv' := [(3, .int ((0 : Int32))), (2, .int ((0 : Int32))), (0, .ref (a 13)), (1, .int b1)]) (pc := 3) C.1 C.2.1 dX1_inState_3 rfl hl (by decide) rfl (fun ls hl => ?_)
  exact hw _ _ _ h (lv_sub hl [2, 3, 1, 0] rfl)

def wp_J7_fill_53178_25 (b2 : Int32) (z : St) (P : St → Prop) : Prop :=
  (∀ K3 : Int32 → Int32 → St → Prop, (∀ (v1 : Int32) (v2 : Int32) (z4 : St), (((v2 ≤ v1) → P z4) ∧ (¬ (v2 ≤ v1) → (vp_in v1 5 ∧ (∀ z6 : St, z6 = wR z4 25 (upd (gF z4 25) v1.toNatClampNeg b2) → (∀ x7 : Int32, x7 = v1 + (1) → K3 x7 v2 z6))))) → K3 v1 v2 z4) → K3 ((0 : Int32)) ((5 : Int32)) z)
set_option maxHeartbeats 4000000 in
set_option maxRecDepth 100000 in
theorem m_J7_fill_53178_25 (l : Launch) (D : va_G) (t : Ty3) (a : Nat → Nat) (b2 : Int32) (z : St) (P : St → Prop) (hw : wp_J7_fill_53178_25 b2 z P) : CtV l D t yJ7_fill_53178 cJ7_fill_53178 4 none 0 (wX t a) (wX t a z) [.ref (a 25), .int b2] P := by
  refine ctV_of (by decide) (Nat.le_of_ble_eq_true rfl) ?_
  intro p e s m args below meth c A ls C hr hlk h hl
  have hl : lv_has ls 4 [(0, .ref (a 25)), (1, .int b2)] := hl
  unfold wp_J7_fill_53178_25 at hw
  refine lv_iconst (v := 0) (pc := 0) C.1 C.2.1 dJ7_fill_53178_0 (by decide) ?_
  refine lv_istore_n (lv' := [(2, .int ((0 : Int32))), (0, .ref (a 25)), (1, .int b2)]) (pc := 1) C.1 C.2.1 dJ7_fill_53178_1 rfl hl (by decide) rfl (fun ls hl => ?_)
  refine lv_aload_n (pc := 2) C.1 C.2.1 dJ7_fill_53178_2 rfl (lv_at hl 1 rfl) ?_
  refine r_len (pc := 3) (n := 5) (q := 25) (v := 5) C h rfl (by decide) dJ7_fill_53178_3 ?_
  have hw := hw (fun (v1 : Int32) (v2 : Int32) (z4 : St) => ∀ (H : Heap) (locs : List Loc) (ls : Array Slot), wd D t A s (wX t a z4) H locs → lv_has ls 4 [(0, .ref (a 25)), (1, .int b2), (2, .int v1), (3, .int v2)] → W p l e (rmd 0) s m args below meth c H locs 0 0 (QV D t A (wX t a) P below args s) (F0 m 5 ls [])) (by
      intro v1 v2 z4 hw H locs ls h hl
      refine lv_iload_n (pc := 5) C.1 C.2.1 dJ7_fill_53178_5 rfl (lv_at hl 2 rfl) ?_
      refine lv_iload_n (pc := 6) C.1 C.2.1 dJ7_fill_53178_6 rfl (lv_at hl 3 rfl) ?_
      refine lv_icmp_ge (tgt := 20) (pc := 7) C.1 C.2.1 dJ7_fill_53178_7 (by decide) (fun c5 => ?_) (fun c5 => ?_)
      · have hw := hw.1 c5
        exact rt_v (pc := 20) C hr hlk h hw dJ7_fill_53178_20
      · have hw := hw.2 c5
        refine lv_aload_n (pc := 10) C.1 C.2.1 dJ7_fill_53178_10 rfl (lv_at hl 0 rfl) ?_
        refine lv_iload_n (pc := 11) C.1 C.2.1 dJ7_fill_53178_11 rfl (lv_at hl 2 rfl) ?_
        refine lv_iload_n (pc := 12) C.1 C.2.1 dJ7_fill_53178_12 rfl (lv_at hl 1 rfl) ?_
        refine stX_25 (pc := 13) C h hw.1 dJ7_fill_53178_13 (fun z6 ez6 H locs h => ?_)
        have hw := hw.2 z6 ez6
        obtain ⟨x7, ex7⟩ : ∃ y : Int32, y = v1 + (1) := ⟨_, rfl⟩
        have hw := hw x7 ex7
        refine lv_iinc (v := x7) (lv' := [(2, .int x7), (0, .ref (a 25)), (1, .int b2), (3, .int v2)]) (pc := 14) C.1 C.2.1 dJ7_fill_53178_14 hl (k := 2) rfl (by rw [ex7]; rfl) (by decide) rfl (fun ls hl => ?_)
        refine lv_goto (tgt := 5) (pc := 17) C.1 C.2.1 dJ7_fill_53178_17 (by decide) ?_
        exact hw _ _ _ h (lv_sub hl [1, 2, 0, 3] rfl))
  refine lv_istore_n (lv' := [(3, .int ((5 : Int32))), (2, .int ((0 : Int32))), (0, .ref (a 25)), (1, .int b2)]) (pc := 4) C.1 C.2.1 dJ7_fill_53178_4 rfl hl (by decide) rfl (fun ls hl => ?_)
  exact hw _ _ _ h (lv_sub hl [2, 3, 1, 0] rfl)

def wp_J7_fill_53178_30 (b2 : Int32) (z : St) (P : St → Prop) : Prop :=
  (∀ K3 : Int32 → Int32 → St → Prop, (∀ (v1 : Int32) (v2 : Int32) (z4 : St), (((v2 ≤ v1) → P z4) ∧ (¬ (v2 ≤ v1) → (vp_in v1 30 ∧ (∀ z6 : St, z6 = wR z4 30 (upd (gF z4 30) v1.toNatClampNeg b2) → (∀ x7 : Int32, x7 = v1 + (1) → K3 x7 v2 z6))))) → K3 v1 v2 z4) → K3 ((0 : Int32)) ((30 : Int32)) z)
set_option maxHeartbeats 4000000 in
set_option maxRecDepth 100000 in
theorem m_J7_fill_53178_30 (l : Launch) (D : va_G) (t : Ty3) (a : Nat → Nat) (b2 : Int32) (z : St) (P : St → Prop) (hw : wp_J7_fill_53178_30 b2 z P) : CtV l D t yJ7_fill_53178 cJ7_fill_53178 4 none 0 (wX t a) (wX t a z) [.ref (a 30), .int b2] P := by
  refine ctV_of (by decide) (Nat.le_of_ble_eq_true rfl) ?_
  intro p e s m args below meth c A ls C hr hlk h hl
  have hl : lv_has ls 4 [(0, .ref (a 30)), (1, .int b2)] := hl
  unfold wp_J7_fill_53178_30 at hw
  refine lv_iconst (v := 0) (pc := 0) C.1 C.2.1 dJ7_fill_53178_0 (by decide) ?_
  refine lv_istore_n (lv' := [(2, .int ((0 : Int32))), (0, .ref (a 30)), (1, .int b2)]) (pc := 1) C.1 C.2.1 dJ7_fill_53178_1 rfl hl (by decide) rfl (fun ls hl => ?_)
  refine lv_aload_n (pc := 2) C.1 C.2.1 dJ7_fill_53178_2 rfl (lv_at hl 1 rfl) ?_
  refine r_len (pc := 3) (n := 30) (q := 30) (v := 30) C h rfl (by decide) dJ7_fill_53178_3 ?_
  have hw := hw (fun (v1 : Int32) (v2 : Int32) (z4 : St) => ∀ (H : Heap) (locs : List Loc) (ls : Array Slot), wd D t A s (wX t a z4) H locs → lv_has ls 4 [(0, .ref (a 30)), (1, .int b2), (2, .int v1), (3, .int v2)] → W p l e (rmd 0) s m args below meth c H locs 0 0 (QV D t A (wX t a) P below args s) (F0 m 5 ls [])) (by
      intro v1 v2 z4 hw H locs ls h hl
      refine lv_iload_n (pc := 5) C.1 C.2.1 dJ7_fill_53178_5 rfl (lv_at hl 2 rfl) ?_
      refine lv_iload_n (pc := 6) C.1 C.2.1 dJ7_fill_53178_6 rfl (lv_at hl 3 rfl) ?_
      refine lv_icmp_ge (tgt := 20) (pc := 7) C.1 C.2.1 dJ7_fill_53178_7 (by decide) (fun c5 => ?_) (fun c5 => ?_)
      · have hw := hw.1 c5
        exact rt_v (pc := 20) C hr hlk h hw dJ7_fill_53178_20
      · have hw := hw.2 c5
        refine lv_aload_n (pc := 10) C.1 C.2.1 dJ7_fill_53178_10 rfl (lv_at hl 0 rfl) ?_
        refine lv_iload_n (pc := 11) C.1 C.2.1 dJ7_fill_53178_11 rfl (lv_at hl 2 rfl) ?_
        refine lv_iload_n (pc := 12) C.1 C.2.1 dJ7_fill_53178_12 rfl (lv_at hl 1 rfl) ?_
        refine stX_30 (pc := 13) C h hw.1 dJ7_fill_53178_13 (fun z6 ez6 H locs h => ?_)
        have hw := hw.2 z6 ez6
        obtain ⟨x7, ex7⟩ : ∃ y : Int32, y = v1 + (1) := ⟨_, rfl⟩
        have hw := hw x7 ex7
        refine lv_iinc (v := x7) (lv' := [(2, .int x7), (0, .ref (a 30)), (1, .int b2), (3, .int v2)]) (pc := 14) C.1 C.2.1 dJ7_fill_53178_14 hl (k := 2) rfl (by rw [ex7]; rfl) (by decide) rfl (fun ls hl => ?_)
        refine lv_goto (tgt := 5) (pc := 17) C.1 C.2.1 dJ7_fill_53178_17 (by decide) ?_
        exact hw _ _ _ h (lv_sub hl [1, 2, 0, 3] rfl))
  refine lv_istore_n (lv' := [(3, .int ((30 : Int32))), (2, .int ((0 : Int32))), (0, .ref (a 30)), (1, .int b2)]) (pc := 4) C.1 C.2.1 dJ7_fill_53178_4 rfl hl (by decide) rfl (fun ls hl => ?_)
  exact hw _ _ _ h (lv_sub hl [2, 3, 1, 0] rfl)

def wp_J7_fill_53178_29 (b2 : Int32) (z : St) (P : St → Prop) : Prop :=
  (∀ K3 : Int32 → Int32 → St → Prop, (∀ (v1 : Int32) (v2 : Int32) (z4 : St), (((v2 ≤ v1) → P z4) ∧ (¬ (v2 ≤ v1) → (vp_in v1 600 ∧ (∀ z6 : St, z6 = wR z4 29 (upd (gF z4 29) v1.toNatClampNeg b2) → (∀ x7 : Int32, x7 = v1 + (1) → K3 x7 v2 z6))))) → K3 v1 v2 z4) → K3 ((0 : Int32)) ((600 : Int32)) z)
set_option maxHeartbeats 4000000 in
set_option maxRecDepth 100000 in
theorem m_J7_fill_53178_29 (l : Launch) (D : va_G) (t : Ty3) (a : Nat → Nat) (b2 : Int32) (z : St) (P : St → Prop) (hw : wp_J7_fill_53178_29 b2 z P) : CtV l D t yJ7_fill_53178 cJ7_fill_53178 4 none 0 (wX t a) (wX t a z) [.ref (a 29), .int b2] P := by
  refine ctV_of (by decide) (Nat.le_of_ble_eq_true rfl) ?_
  intro p e s m args below meth c A ls C hr hlk h hl
  have hl : lv_has ls 4 [(0, .ref (a 29)), (1, .int b2)] := hl
  unfold wp_J7_fill_53178_29 at hw
  refine lv_iconst (v := 0) (pc := 0) C.1 C.2.1 dJ7_fill_53178_0 (by decide) ?_
  refine lv_istore_n (lv' := [(2, .int ((0 : Int32))), (0, .ref (a 29)), (1, .int b2)]) (pc := 1) C.1 C.2.1 dJ7_fill_53178_1 rfl hl (by decide) rfl (fun ls hl => ?_)
  refine lv_aload_n (pc := 2) C.1 C.2.1 dJ7_fill_53178_2 rfl (lv_at hl 1 rfl) ?_
  refine r_len (pc := 3) (n := 600) (q := 29) (v := 600) C h rfl (by decide) dJ7_fill_53178_3 ?_
  have hw := hw (fun (v1 : Int32) (v2 : Int32) (z4 : St) => ∀ (H : Heap) (locs : List Loc) (ls : Array Slot), wd D t A s (wX t a z4) H locs → lv_has ls 4 [(0, .ref (a 29)), (1, .int b2), (2, .int v1), (3, .int v2)] → W p l e (rmd 0) s m args below meth c H locs 0 0 (QV D t A (wX t a) P below args s) (F0 m 5 ls [])) (by
      intro v1 v2 z4 hw H locs ls h hl
      refine lv_iload_n (pc := 5) C.1 C.2.1 dJ7_fill_53178_5 rfl (lv_at hl 2 rfl) ?_
      refine lv_iload_n (pc := 6) C.1 C.2.1 dJ7_fill_53178_6 rfl (lv_at hl 3 rfl) ?_
      refine lv_icmp_ge (tgt := 20) (pc := 7) C.1 C.2.1 dJ7_fill_53178_7 (by decide) (fun c5 => ?_) (fun c5 => ?_)
      · have hw := hw.1 c5
        exact rt_v (pc := 20) C hr hlk h hw dJ7_fill_53178_20
      · have hw := hw.2 c5
        refine lv_aload_n (pc := 10) C.1 C.2.1 dJ7_fill_53178_10 rfl (lv_at hl 0 rfl) ?_
        refine lv_iload_n (pc := 11) C.1 C.2.1 dJ7_fill_53178_11 rfl (lv_at hl 2 rfl) ?_
        refine lv_iload_n (pc := 12) C.1 C.2.1 dJ7_fill_53178_12 rfl (lv_at hl 1 rfl) ?_
        refine stX_29 (pc := 13) C h hw.1 dJ7_fill_53178_13 (fun z6 ez6 H locs h => ?_)
        have hw := hw.2 z6 ez6
        obtain ⟨x7, ex7⟩ : ∃ y : Int32, y = v1 + (1) := ⟨_, rfl⟩
        have hw := hw x7 ex7
        refine lv_iinc (v := x7) (lv' := [(2, .int x7), (0, .ref (a 29)), (1, .int b2), (3, .int v2)]) (pc := 14) C.1 C.2.1 dJ7_fill_53178_14 hl (k := 2) rfl (by rw [ex7]; rfl) (by decide) rfl (fun ls hl => ?_)
        refine lv_goto (tgt := 5) (pc := 17) C.1 C.2.1 dJ7_fill_53178_17 (by decide) ?_
        exact hw _ _ _ h (lv_sub hl [1, 2, 0, 3] rfl))
  refine lv_istore_n (lv' := [(3, .int ((600 : Int32))), (2, .int ((0 : Int32))), (0, .ref (a 29)), (1, .int b2)]) (pc := 4) C.1 C.2.1 dJ7_fill_53178_4 rfl hl (by decide) rfl (fun ls hl => ?_)
  exact hw _ _ _ h (lv_sub hl [2, 3, 1, 0] rfl)

def wp_X6_clear  (z : St) (P : St → Prop) : Prop :=
  (∀ z1 : St, z1 = wI z 2213 ((0 : Int32)) → (wp_J7_fill_53178_25 ((0 : Int32)) z1 (fun z2 => (wp_J7_fill_53178_30 ((0 : Int32)) z2 (fun z4 => (wp_J7_fill_53178_29 ((0 : Int32)) z4 (fun z6 => P z6)))))))
set_option maxHeartbeats 4000000 in
set_option maxRecDepth 100000 in
theorem m_X6_clear (l : Launch) (D : va_G) (t : Ty3) (a : Nat → Nat)  (z : St) (P : St → Prop) (hw : wp_X6_clear z P) : CtV l D t yX6_clear cX6_clear 1 none 1 (wX t a) (wX t a z) [.ref (a 22)] P := by
  refine ctV_of (by decide) (Nat.le_of_ble_eq_true rfl) ?_
  intro p e s m args below meth c A ls C hr hlk h hl
  have hl : lv_has ls 1 [(0, .ref (a 22))] := hl
  unfold wp_X6_clear at hw
  refine lv_aload_n (pc := 0) C.1 C.2.1 dX6_clear_0 rfl (lv_at hl 0 rfl) ?_
  refine lv_iconst (v := 0) (pc := 1) C.1 C.2.1 dX6_clear_1 (by decide) ?_
  refine PX_X6_54_22 (pc := 2) C h dX6_clear_2 (fun z1 ez1 H locs h => ?_)
  have hw := hw z1 ez1
  refine lv_aload_n (pc := 5) C.1 C.2.1 dX6_clear_5 rfl (lv_at hl 0 rfl) ?_
  refine GX_X6_18_22 (pc := 6) C h dX6_clear_6 ?_
  refine lv_iconst (v := 0) (pc := 9) C.1 C.2.1 dX6_clear_9 (by decide) ?_
  refine cl_sv (pc := 10) (As := [.ref (a 25), .int ((0 : Int32))]) (rest := []) C h (m_J7_fill_53178_25 l D t a ((0 : Int32)) z1 _ hw) mw_J7_fill_53178 lm_X6_71 md_J7_fill_53178 ⟨by decide, by decide⟩ ⟨Nat.zero_le _, Nat.zero_le _⟩ hl.1 rfl (Nat.le_of_ble_eq_true rfl) dX6_clear_10 (fun z2 H locs hw h => ?_)
  refine lv_aload_n (pc := 13) C.1 C.2.1 dX6_clear_13 rfl (lv_at hl 0 rfl) ?_
  refine GX_X6_34_22 (pc := 14) C h dX6_clear_14 ?_
  refine lv_iconst (v := 0) (pc := 17) C.1 C.2.1 dX6_clear_17 (by decide) ?_
  refine cl_sv (pc := 18) (As := [.ref (a 30), .int ((0 : Int32))]) (rest := []) C h (m_J7_fill_53178_30 l D t a ((0 : Int32)) z2 _ hw) mw_J7_fill_53178 lm_X6_71 md_J7_fill_53178 ⟨by decide, by decide⟩ ⟨Nat.zero_le _, Nat.zero_le _⟩ hl.1 rfl (Nat.le_of_ble_eq_true rfl) dX6_clear_18 (fun z4 H locs hw h => ?_)
  refine lv_aload_n (pc := 21) C.1 C.2.1 dX6_clear_21 rfl (lv_at hl 0 rfl) ?_
  refine GX_X6_31_22 (pc := 22) C h dX6_clear_22 ?_
  refine lv_iconst (v := 0) (pc := 25) C.1 C.2.1 dX6_clear_25 (by decide) ?_
  refine cl_sv (pc := 26) (As := [.ref (a 29), .int ((0 : Int32))]) (rest := []) C h (m_J7_fill_53178_29 l D t a ((0 : Int32)) z4 _ hw) mw_J7_fill_53178 lm_X6_71 md_J7_fill_53178 ⟨by decide, by decide⟩ ⟨Nat.zero_le _, Nat.zero_le _⟩ hl.1 rfl (Nat.le_of_ble_eq_true rfl) dX6_clear_26 (fun z6 H locs hw h => ?_)
  exact rt_v (pc := 29) C hr hlk h hw dX6_clear_29

def wp_X6_leastOf (b1 : Int32) (b2 : Int32) (z : St) (P : Int64 → Prop) : Prop :=
  (∀ K2 : Int32 → Prop, (∀ (v1 : Int32), (vp_in b1 5 ∧ ((((gF z 25 b1.toNatClampNeg) ≤ v1) → P ((1000000000000000000 : Int64))) ∧ (¬ ((gF z 25 b1.toNatClampNeg) ≤ v1) → (vp_in ((b1 * ((24 : Int32))) + v1) 120 ∧ (∀ x4 : Int32, x4 = gF z 27 ((b1 * ((24 : Int32))) + v1).toNatClampNeg → (((((b2 >>> (x4 &&& 31)) &&& ((1 : Int32))) = 0) → (∀ x6 : Int32, x6 = v1 + (1) → K2 x6)) ∧ (¬ (((b2 >>> (x4 &&& 31)) &&& ((1 : Int32))) = 0) → (vp_in ((b1 * ((24 : Int32))) + x4) 120 ∧ P (gG z 28 ((b1 * ((24 : Int32))) + x4).toNatClampNeg))))))))) → K2 v1) → K2 ((0 : Int32)))
set_option maxHeartbeats 4000000 in
set_option maxRecDepth 100000 in
theorem m_X6_leastOf (l : Launch) (D : va_G) (t : Ty3) (a : Nat → Nat) (b1 : Int32) (b2 : Int32) (z : St) (P : Int64 → Prop) (hw : wp_X6_leastOf b1 b2 z P) : CtL l D t yX6_leastOf cX6_leastOf 5 (some .long) 0 (wX t a) (wX t a z) [.ref (a 22), .int b1, .int b2] (fun rr zz => zz = z ∧ P rr) := by
  refine ctL_of (by decide) (Nat.le_of_ble_eq_true rfl) ?_
  intro p e s m args below meth c A ls C hr hlk h hl
  have hl : lv_has ls 5 [(0, .ref (a 22)), (1, .int b1), (2, .int b2)] := hl
  unfold wp_X6_leastOf at hw
  refine lv_iconst (v := 0) (pc := 0) C.1 C.2.1 dX6_leastOf_0 (by decide) ?_
  have hw := hw (fun (v1 : Int32) => ∀ (H : Heap) (locs : List Loc) (ls : Array Slot), wd D t A s (wX t a z) H locs → lv_has ls 5 [(0, .ref (a 22)), (1, .int b1), (2, .int b2), (3, .int v1)] → W p l e (rmd 0) s m args below meth c H locs 0 0 (QL D t A (wX t a) (fun rr zz => zz = z ∧ P rr) below args s) (F0 m 2 ls [])) (by
      intro v1 hw H locs ls h hl
      refine lv_iload_n (pc := 2) C.1 C.2.1 dX6_leastOf_2 rfl (lv_at hl 3 rfl) ?_
      refine lv_aload_n (pc := 3) C.1 C.2.1 dX6_leastOf_3 rfl (lv_at hl 0 rfl) ?_
      refine GX_X6_18_22 (pc := 4) C h dX6_leastOf_4 ?_
      refine lv_iload_n (pc := 7) C.1 C.2.1 dX6_leastOf_7 rfl (lv_at hl 1 rfl) ?_
      refine ldX_25 (pc := 8) C h hw.1 dX6_leastOf_8 ?_
      have hw := hw.2
      refine lv_icmp_ge (tgt := 53) (pc := 9) C.1 C.2.1 dX6_leastOf_9 (by decide) (fun c3 => ?_) (fun c3 => ?_)
      · have hw := hw.1 c3
        refine lv_ldc2 (pc := 53) C.1 C.2.1 C.2.2.2.1 (C.2.2.2.2 _ lc_X6_62) dX6_leastOf_53 ?_
        exact rt_l (pc := 56) C hr hlk h ⟨rfl, hw⟩ dX6_leastOf_56
      · have hw := hw.2 c3
        refine lv_aload_n (pc := 12) C.1 C.2.1 dX6_leastOf_12 rfl (lv_at hl 0 rfl) ?_
        refine GX_X6_24_22 (pc := 13) C h dX6_leastOf_13 ?_
        refine lv_iload_n (pc := 16) C.1 C.2.1 dX6_leastOf_16 rfl (lv_at hl 1 rfl) ?_
        refine lv_bipush (v := 24) (pc := 17) C.1 C.2.1 dX6_leastOf_17 (by decide) ?_
        refine lv_imul (pc := 19) C.1 C.2.1 dX6_leastOf_19 ?_
        refine lv_iload_n (pc := 20) C.1 C.2.1 dX6_leastOf_20 rfl (lv_at hl 3 rfl) ?_
        refine lv_iadd (pc := 21) C.1 C.2.1 dX6_leastOf_21 ?_
        refine ldX_27 (pc := 22) C h hw.1 dX6_leastOf_22 ?_
        have hw := hw.2
        refine lv_topi (fun x4 ex4 => ?_)
        have hw := hw x4 ex4
        refine lv_istore (lv' := [(4, .int x4), (0, .ref (a 22)), (1, .int b1), (2, .int b2), (3, .int v1)]) (pc := 23) C.1 C.2.1 dX6_leastOf_23 hl (by decide) rfl (fun ls hl => ?_)
        refine lv_iload_n (pc := 25) C.1 C.2.1 dX6_leastOf_25 rfl (lv_at hl 3 rfl) ?_
        refine lv_iload (pc := 26) C.1 C.2.1 dX6_leastOf_26 (lv_at hl 0 rfl) ?_
        refine lv_ishr (pc := 28) C.1 C.2.1 dX6_leastOf_28 ?_
        refine lv_iconst (v := 1) (pc := 29) C.1 C.2.1 dX6_leastOf_29 (by decide) ?_
        refine lv_iand (pc := 30) C.1 C.2.1 dX6_leastOf_30 ?_
        refine lv_if_eq (tgt := 47) (pc := 31) C.1 C.2.1 dX6_leastOf_31 (by decide) (fun c5 => ?_) (fun c5 => ?_)
        · have hw := hw.1 c5
          obtain ⟨x6, ex6⟩ : ∃ y : Int32, y = v1 + (1) := ⟨_, rfl⟩
          have hw := hw x6 ex6
          refine lv_iinc (v := x6) (lv' := [(3, .int x6), (4, .int x4), (0, .ref (a 22)), (1, .int b1), (2, .int b2)]) (pc := 47) C.1 C.2.1 dX6_leastOf_47 hl (k := 4) rfl (by rw [ex6]; rfl) (by decide) rfl (fun ls hl => ?_)
          refine lv_goto (tgt := 2) (pc := 50) C.1 C.2.1 dX6_leastOf_50 (by decide) ?_
          exact hw _ _ _ h (lv_sub hl [2, 3, 4, 0] rfl)
        · have hw := hw.2 c5
          refine lv_aload_n (pc := 34) C.1 C.2.1 dX6_leastOf_34 rfl (lv_at hl 1 rfl) ?_
          refine GX_X6_27_22 (pc := 35) C h dX6_leastOf_35 ?_
          refine lv_iload_n (pc := 38) C.1 C.2.1 dX6_leastOf_38 rfl (lv_at hl 2 rfl) ?_
          refine lv_bipush (v := 24) (pc := 39) C.1 C.2.1 dX6_leastOf_39 (by decide) ?_
          refine lv_imul (pc := 41) C.1 C.2.1 dX6_leastOf_41 ?_
          refine lv_iload (pc := 42) C.1 C.2.1 dX6_leastOf_42 (lv_at hl 0 rfl) ?_
          refine lv_iadd (pc := 44) C.1 C.2.1 dX6_leastOf_44 ?_
          refine ldX_28 (pc := 45) C h hw.1 dX6_leastOf_45 ?_
          have hw := hw.2
          exact rt_l (pc := 46) C hr hlk h ⟨rfl, hw⟩ dX6_leastOf_46)
  refine lv_istore_n (lv' := [(3, .int ((0 : Int32))), (0, .ref (a 22)), (1, .int b1), (2, .int b2)]) (pc := 1) C.1 C.2.1 dX6_leastOf_1 rfl hl (by decide) rfl (fun ls hl => ?_)
  exact hw _ _ _ h (lv_sub hl [1, 2, 3, 0] rfl)

def wp_X6_hasPartners (b1 : Int32) (b2 : Int32) (z : St) (P : Int32 → Prop) : Prop :=
  (∀ K2 : Int32 → Prop, (∀ (v1 : Int32), ((((gI z 2213) ≤ v1) → P ((1 : Int32))) ∧ (¬ ((gI z 2213) ≤ v1) → (∀ K4 : Prop, ((∀ x5 : Int32, x5 = v1 + (1) → K2 x5) → K4) → (((v1 = b1) → K4) ∧ (¬ (v1 = b1) → (vp_in ((((b1 * ((24 : Int32))) + b2) * ((5 : Int32))) + v1) 600 ∧ (vp_in v1 30 ∧ (((¬ ((gF z 29 ((((b1 * ((24 : Int32))) + b2) * ((5 : Int32))) + v1).toNatClampNeg) &&& (gF z 30 v1.toNatClampNeg)) = 0) → K4) ∧ (((gF z 29 ((((b1 * ((24 : Int32))) + b2) * ((5 : Int32))) + v1).toNatClampNeg) &&& (gF z 30 v1.toNatClampNeg)) = 0 → P ((0 : Int32))))))))))) → K2 v1) → K2 ((0 : Int32)))
set_option maxHeartbeats 4000000 in
set_option maxRecDepth 100000 in
theorem m_X6_hasPartners (l : Launch) (D : va_G) (t : Ty3) (a : Nat → Nat) (b1 : Int32) (b2 : Int32) (z : St) (P : Int32 → Prop) (hw : wp_X6_hasPartners b1 b2 z P) : CtI l D t yX6_hasPartners cX6_hasPartners 4 (some .boolean) 0 (wX t a) (wX t a z) [.ref (a 22), .int b1, .int b2] (fun rr zz => zz = z ∧ P rr) := by
  refine ctI_of (by decide) (Nat.le_of_ble_eq_true rfl) ?_
  intro p e s m args below meth c A ls C hr hlk h hl
  have hl : lv_has ls 4 [(0, .ref (a 22)), (1, .int b1), (2, .int b2)] := hl
  unfold wp_X6_hasPartners at hw
  refine lv_iconst (v := 0) (pc := 0) C.1 C.2.1 dX6_hasPartners_0 (by decide) ?_
  have hw := hw (fun (v1 : Int32) => ∀ (H : Heap) (locs : List Loc) (ls : Array Slot), wd D t A s (wX t a z) H locs → lv_has ls 4 [(0, .ref (a 22)), (1, .int b1), (2, .int b2), (3, .int v1)] → W p l e (rmd 0) s m args below meth c H locs 0 0 (QI D t A (wX t a) (fun rr zz => zz = z ∧ P rr) below args s) (F0 m 2 ls [])) (by
      intro v1 hw H locs ls h hl
      refine lv_iload_n (pc := 2) C.1 C.2.1 dX6_hasPartners_2 rfl (lv_at hl 3 rfl) ?_
      refine lv_aload_n (pc := 3) C.1 C.2.1 dX6_hasPartners_3 rfl (lv_at hl 0 rfl) ?_
      refine GX_X6_54_22 (pc := 4) C h dX6_hasPartners_4 ?_
      refine lv_icmp_ge (tgt := 48) (pc := 7) C.1 C.2.1 dX6_hasPartners_7 (by decide) (fun c3 => ?_) (fun c3 => ?_)
      · have hw := hw.1 c3
        refine lv_iconst (v := 1) (pc := 48) C.1 C.2.1 dX6_hasPartners_48 (by decide) ?_
        exact rt_z (pc := 49) C hr hlk h (Or.inr rfl) ⟨rfl, hw⟩ dX6_hasPartners_49
      · have hw := hw.2 c3
        refine lv_iload_n (pc := 10) C.1 C.2.1 dX6_hasPartners_10 rfl (lv_at hl 3 rfl) ?_
        refine lv_iload_n (pc := 11) C.1 C.2.1 dX6_hasPartners_11 rfl (lv_at hl 1 rfl) ?_
        have hw := hw (∀ (H : Heap) (locs : List Loc) (ls : Array Slot), wd D t A s (wX t a z) H locs → lv_has ls 4 [(0, .ref (a 22)), (1, .int b1), (2, .int b2), (3, .int v1)] → W p l e (rmd 0) s m args below meth c H locs 0 0 (QI D t A (wX t a) (fun rr zz => zz = z ∧ P rr) below args s) (F0 m 42 ls [])) (by
            intro hw H locs ls h hl
            obtain ⟨x5, ex5⟩ : ∃ y : Int32, y = v1 + (1) := ⟨_, rfl⟩
            have hw := hw x5 ex5
            refine lv_iinc (v := x5) (lv' := [(3, .int x5), (0, .ref (a 22)), (1, .int b1), (2, .int b2)]) (pc := 42) C.1 C.2.1 dX6_hasPartners_42 hl (k := 3) rfl (by rw [ex5]; rfl) (by decide) rfl (fun ls hl => ?_)
            refine lv_goto (tgt := 2) (pc := 45) C.1 C.2.1 dX6_hasPartners_45 (by decide) ?_
            exact hw _ _ _ h (lv_sub hl [1, 2, 3, 0] rfl))
        refine lv_icmp_eq (tgt := 42) (pc := 12) C.1 C.2.1 dX6_hasPartners_12 (by decide) (fun c6 => ?_) (fun c6 => ?_)
        · have hw := hw.1 c6
          exact hw _ _ _ h (lv_sub hl [0, 1, 2, 3] rfl)
        · have hw := hw.2 c6
          refine lv_aload_n (pc := 15) C.1 C.2.1 dX6_hasPartners_15 rfl (lv_at hl 0 rfl) ?_
          refine GX_X6_31_22 (pc := 16) C h dX6_hasPartners_16 ?_
          refine lv_iload_n (pc := 19) C.1 C.2.1 dX6_hasPartners_19 rfl (lv_at hl 1 rfl) ?_
          refine lv_bipush (v := 24) (pc := 20) C.1 C.2.1 dX6_hasPartners_20 (by decide) ?_
          refine lv_imul (pc := 22) C.1 C.2.1 dX6_hasPartners_22 ?_
          refine lv_iload_n (pc := 23) C.1 C.2.1 dX6_hasPartners_23 rfl (lv_at hl 2 rfl) ?_
          refine lv_iadd (pc := 24) C.1 C.2.1 dX6_hasPartners_24 ?_
          refine lv_iconst (v := 5) (pc := 25) C.1 C.2.1 dX6_hasPartners_25 (by decide) ?_
          refine lv_imul (pc := 26) C.1 C.2.1 dX6_hasPartners_26 ?_
          refine lv_iload_n (pc := 27) C.1 C.2.1 dX6_hasPartners_27 rfl (lv_at hl 3 rfl) ?_
          refine lv_iadd (pc := 28) C.1 C.2.1 dX6_hasPartners_28 ?_
          refine ldX_29 (pc := 29) C h hw.1 dX6_hasPartners_29 ?_
          have hw := hw.2
          refine lv_aload_n (pc := 30) C.1 C.2.1 dX6_hasPartners_30 rfl (lv_at hl 0 rfl) ?_
          refine GX_X6_34_22 (pc := 31) C h dX6_hasPartners_31 ?_
          refine lv_iload_n (pc := 34) C.1 C.2.1 dX6_hasPartners_34 rfl (lv_at hl 3 rfl) ?_
          refine ldX_30 (pc := 35) C h hw.1 dX6_hasPartners_35 ?_
          have hw := hw.2
          refine lv_iand (pc := 36) C.1 C.2.1 dX6_hasPartners_36 ?_
          refine lv_if_ne (tgt := 42) (pc := 37) C.1 C.2.1 dX6_hasPartners_37 (by decide) (fun c7 => ?_) (fun c7 => ?_)
          · have hw := hw.1 c7
            exact hw _ _ _ h (lv_sub hl [0, 1, 2, 3] rfl)
          · have hw := hw.2 c7
            refine lv_iconst (v := 0) (pc := 40) C.1 C.2.1 dX6_hasPartners_40 (by decide) ?_
            exact rt_z (pc := 41) C hr hlk h (Or.inl rfl) ⟨rfl, hw⟩ dX6_hasPartners_41)
  refine lv_istore_n (lv' := [(3, .int ((0 : Int32))), (0, .ref (a 22)), (1, .int b1), (2, .int b2)]) (pc := 1) C.1 C.2.1 dX6_hasPartners_1 rfl hl (by decide) rfl (fun ls hl => ?_)
  exact hw _ _ _ h (lv_sub hl [1, 2, 3, 0] rfl)

def wp_X6_thinOut  (z : St) (P : Int32 → St → Prop) : Prop :=
  (∀ K3 : Int32 → Int32 → St → Prop, (∀ (v1 : Int32) (v2 : Int32) (z4 : St), ((((gI z4 2213) ≤ v2) → ((v1 = 0 ∨ v1 = 1) ∧ P v1 z4)) ∧ (¬ ((gI z4 2213) ≤ v2) → (∀ K8 : Int32 → Int32 → St → Prop, (∀ (v6 : Int32) (v7 : Int32) (z9 : St), (vp_in v2 5 ∧ ((((gF z9 25 v2.toNatClampNeg) ≤ v7) → (∀ x11 : Int32, x11 = v2 + (1) → K3 v6 x11 z9)) ∧ (¬ ((gF z9 25 v2.toNatClampNeg) ≤ v7) → (vp_in ((v2 * ((24 : Int32))) + v7) 120 ∧ (∀ x12 : Int32, x12 = gF z9 26 ((v2 * ((24 : Int32))) + v7).toNatClampNeg → (vp_in v2 30 ∧ (∀ K14 : Int32 → St → Prop, (∀ (v13 : Int32) (z15 : St), (∀ x16 : Int32, x16 = v7 + (1) → K8 v13 x16 z15) → K14 v13 z15) → ((((((gF z9 30 v2.toNatClampNeg) >>> (x12 &&& 31)) &&& ((1 : Int32))) = 0) → K14 v6 z9) ∧ (¬ ((((gF z9 30 v2.toNatClampNeg) >>> (x12 &&& 31)) &&& ((1 : Int32))) = 0) → (wp_X6_hasPartners v2 x12 z9 (fun r19 => (((¬ r19 = 0) → K14 v6 z9) ∧ (r19 = 0 → (vp_in v2 30 ∧ (vp_in v2 30 ∧ (∀ z21 : St, z21 = wR z9 30 (upd (gF z9 30) v2.toNatClampNeg ((gF z9 30 v2.toNatClampNeg) &&& ((((1 : Int32)) <<< (x12 &&& 31)) ^^^ ((-1 : Int32))))) → K14 ((1 : Int32)) z21)))))))))))))))) → K8 v6 v7 z9) → K8 v1 ((0 : Int32)) z4))) → K3 v1 v2 z4) → K3 ((0 : Int32)) ((0 : Int32)) z)
set_option maxHeartbeats 4000000 in
set_option maxRecDepth 100000 in
theorem m_X6_thinOut (l : Launch) (D : va_G) (t : Ty3) (a : Nat → Nat)  (z : St) (P : Int32 → St → Prop) (hw : wp_X6_thinOut z P) : CtI l D t yX6_thinOut cX6_thinOut 5 (some .boolean) 1 (wX t a) (wX t a z) [.ref (a 22)] P := by
  refine ctI_of (by decide) (Nat.le_of_ble_eq_true rfl) ?_
  intro p e s m args below meth c A ls C hr hlk h hl
  have hl : lv_has ls 5 [(0, .ref (a 22))] := hl
  unfold wp_X6_thinOut at hw
  refine lv_iconst (v := 0) (pc := 0) C.1 C.2.1 dX6_thinOut_0 (by decide) ?_
  refine lv_istore_n (lv' := [(1, .int ((0 : Int32))), (0, .ref (a 22))]) (pc := 1) C.1 C.2.1 dX6_thinOut_1 rfl hl (by decide) rfl (fun ls hl => ?_)
  refine lv_iconst (v := 0) (pc := 2) C.1 C.2.1 dX6_thinOut_2 (by decide) ?_
  have hw := hw (fun (v1 : Int32) (v2 : Int32) (z4 : St) => ∀ (H : Heap) (locs : List Loc) (ls : Array Slot), wd D t A s (wX t a z4) H locs → lv_has ls 5 [(0, .ref (a 22)), (1, .int v1), (2, .int v2)] → W p l e (rmd 1) s m args below meth c H locs 0 0 (QI D t A (wX t a) P below args s) (F0 m 4 ls [])) (by
      intro v1 v2 z4 hw H locs ls h hl
      refine lv_iload_n (pc := 4) C.1 C.2.1 dX6_thinOut_4 rfl (lv_at hl 2 rfl) ?_
      refine lv_aload_n (pc := 5) C.1 C.2.1 dX6_thinOut_5 rfl (lv_at hl 0 rfl) ?_
      refine GX_X6_54_22 (pc := 6) C h dX6_thinOut_6 ?_
      refine lv_icmp_ge (tgt := 90) (pc := 9) C.1 C.2.1 dX6_thinOut_9 (by decide) (fun c5 => ?_) (fun c5 => ?_)
      · have hw := hw.1 c5
        refine lv_iload_n (pc := 90) C.1 C.2.1 dX6_thinOut_90 rfl (lv_at hl 1 rfl) ?_
        exact rt_z (pc := 91) C hr hlk h hw.1 hw.2 dX6_thinOut_91
      · have hw := hw.2 c5
        refine lv_iconst (v := 0) (pc := 12) C.1 C.2.1 dX6_thinOut_12 (by decide) ?_
        have hw := hw (fun (v6 : Int32) (v7 : Int32) (z9 : St) => ∀ (H : Heap) (locs : List Loc) (ls : Array Slot), wd D t A s (wX t a z9) H locs → lv_has ls 5 [(0, .ref (a 22)), (1, .int v6), (2, .int v2), (3, .int v7)] → W p l e (rmd 1) s m args below meth c H locs 0 0 (QI D t A (wX t a) P below args s) (F0 m 14 ls [])) (by
            intro v6 v7 z9 hw H locs ls h hl
            refine lv_iload_n (pc := 14) C.1 C.2.1 dX6_thinOut_14 rfl (lv_at hl 3 rfl) ?_
            refine lv_aload_n (pc := 15) C.1 C.2.1 dX6_thinOut_15 rfl (lv_at hl 0 rfl) ?_
            refine GX_X6_18_22 (pc := 16) C h dX6_thinOut_16 ?_
            refine lv_iload_n (pc := 19) C.1 C.2.1 dX6_thinOut_19 rfl (lv_at hl 2 rfl) ?_
            refine ldX_25 (pc := 20) C h hw.1 dX6_thinOut_20 ?_
            have hw := hw.2
            refine lv_icmp_ge (tgt := 84) (pc := 21) C.1 C.2.1 dX6_thinOut_21 (by decide) (fun c10 => ?_) (fun c10 => ?_)
            · have hw := hw.1 c10
              obtain ⟨x11, ex11⟩ : ∃ y : Int32, y = v2 + (1) := ⟨_, rfl⟩
              have hw := hw x11 ex11
              refine lv_iinc (v := x11) (lv' := [(2, .int x11), (0, .ref (a 22)), (1, .int v6), (3, .int v7)]) (pc := 84) C.1 C.2.1 dX6_thinOut_84 hl (k := 2) rfl (by rw [ex11]; rfl) (by decide) rfl (fun ls hl => ?_)
              refine lv_goto (tgt := 4) (pc := 87) C.1 C.2.1 dX6_thinOut_87 (by decide) ?_
              exact hw _ _ _ h (lv_sub hl [1, 2, 0] rfl)
            · have hw := hw.2 c10
              refine lv_aload_n (pc := 24) C.1 C.2.1 dX6_thinOut_24 rfl (lv_at hl 0 rfl) ?_
              refine GX_X6_21_22 (pc := 25) C h dX6_thinOut_25 ?_
              refine lv_iload_n (pc := 28) C.1 C.2.1 dX6_thinOut_28 rfl (lv_at hl 2 rfl) ?_
              refine lv_bipush (v := 24) (pc := 29) C.1 C.2.1 dX6_thinOut_29 (by decide) ?_
              refine lv_imul (pc := 31) C.1 C.2.1 dX6_thinOut_31 ?_
              refine lv_iload_n (pc := 32) C.1 C.2.1 dX6_thinOut_32 rfl (lv_at hl 3 rfl) ?_
              refine lv_iadd (pc := 33) C.1 C.2.1 dX6_thinOut_33 ?_
              refine ldX_26 (pc := 34) C h hw.1 dX6_thinOut_34 ?_
              have hw := hw.2
              refine lv_topi (fun x12 ex12 => ?_)
              have hw := hw x12 ex12
              refine lv_istore (lv' := [(4, .int x12), (0, .ref (a 22)), (1, .int v6), (2, .int v2), (3, .int v7)]) (pc := 35) C.1 C.2.1 dX6_thinOut_35 hl (by decide) rfl (fun ls hl => ?_)
              refine lv_aload_n (pc := 37) C.1 C.2.1 dX6_thinOut_37 rfl (lv_at hl 1 rfl) ?_
              refine GX_X6_34_22 (pc := 38) C h dX6_thinOut_38 ?_
              refine lv_iload_n (pc := 41) C.1 C.2.1 dX6_thinOut_41 rfl (lv_at hl 3 rfl) ?_
              refine ldX_30 (pc := 42) C h hw.1 dX6_thinOut_42 ?_
              have hw := hw.2
              refine lv_iload (pc := 43) C.1 C.2.1 dX6_thinOut_43 (lv_at hl 0 rfl) ?_
              refine lv_ishr (pc := 45) C.1 C.2.1 dX6_thinOut_45 ?_
              refine lv_iconst (v := 1) (pc := 46) C.1 C.2.1 dX6_thinOut_46 (by decide) ?_
              refine lv_iand (pc := 47) C.1 C.2.1 dX6_thinOut_47 ?_
              have hw := hw (fun (v13 : Int32) (z15 : St) => ∀ (H : Heap) (locs : List Loc) (ls : Array Slot), wd D t A s (wX t a z15) H locs → lv_has ls 5 [(0, .ref (a 22)), (1, .int v13), (2, .int v2), (3, .int v7)] → W p l e (rmd 1) s m args below meth c H locs 0 0 (QI D t A (wX t a) P below args s) (F0 m 78 ls [])) (by
                  intro v13 z15 hw H locs ls h hl
                  obtain ⟨x16, ex16⟩ : ∃ y : Int32, y = v7 + (1) := ⟨_, rfl⟩
                  have hw := hw x16 ex16
                  refine lv_iinc (v := x16) (lv' := [(3, .int x16), (0, .ref (a 22)), (1, .int v13), (2, .int v2)]) (pc := 78) C.1 C.2.1 dX6_thinOut_78 hl (k := 3) rfl (by rw [ex16]; rfl) (by decide) rfl (fun ls hl => ?_)
                  refine lv_goto (tgt := 14) (pc := 81) C.1 C.2.1 dX6_thinOut_81 (by decide) ?_
                  exact hw _ _ _ h (lv_sub hl [1, 2, 3, 0] rfl))
              refine lv_if_eq (tgt := 78) (pc := 48) C.1 C.2.1 dX6_thinOut_48 (by decide) (fun c17 => ?_) (fun c17 => ?_)
              · have hw := hw.1 c17
                exact hw _ _ _ h (lv_sub hl [1, 2, 3, 4] rfl)
              · have hw := hw.2 c17
                refine lv_aload_n (pc := 51) C.1 C.2.1 dX6_thinOut_51 rfl (lv_at hl 1 rfl) ?_
                refine lv_iload_n (pc := 52) C.1 C.2.1 dX6_thinOut_52 rfl (lv_at hl 3 rfl) ?_
                refine lv_iload (pc := 53) C.1 C.2.1 dX6_thinOut_53 (lv_at hl 0 rfl) ?_
                refine cl_vi (pc := 55) (As := [.int v2, .int x12]) (rest := []) C h (m_X6_hasPartners l D t a v2 x12 z9 _ hw) mw_X6_hasPartners lm_X6_141 md_X6_hasPartners rcX_22 ⟨by decide, by decide⟩ ⟨Nat.zero_le _, Nat.zero_le _⟩ hl.1 rfl (Nat.le_of_ble_eq_true rfl) dX6_thinOut_55 (fun r19 z18 H locs hw h => ?_)
                rw [hw.1] at h
                have hw := hw.2
                refine lv_if_ne (tgt := 78) (pc := 58) C.1 C.2.1 dX6_thinOut_58 (by decide) (fun c20 => ?_) (fun c20 => ?_)
                · have hw := hw.1 c20
                  exact hw _ _ _ h (lv_sub hl [1, 2, 3, 4] rfl)
                · have hw := hw.2 c20
                  refine lv_aload_n (pc := 61) C.1 C.2.1 dX6_thinOut_61 rfl (lv_at hl 1 rfl) ?_
                  refine GX_X6_34_22 (pc := 62) C h dX6_thinOut_62 ?_
                  refine lv_iload_n (pc := 65) C.1 C.2.1 dX6_thinOut_65 rfl (lv_at hl 3 rfl) ?_
                  refine lv_dup2_11 (pc := 66) C.1 C.2.1 dX6_thinOut_66 rfl rfl ?_
                  refine ldX_30 (pc := 67) C h hw.1 dX6_thinOut_67 ?_
                  have hw := hw.2
                  refine lv_iconst (v := 1) (pc := 68) C.1 C.2.1 dX6_thinOut_68 (by decide) ?_
                  refine lv_iload (pc := 69) C.1 C.2.1 dX6_thinOut_69 (lv_at hl 0 rfl) ?_
                  refine lv_ishl (pc := 71) C.1 C.2.1 dX6_thinOut_71 ?_
                  refine lv_iconst (v := -1) (pc := 72) C.1 C.2.1 dX6_thinOut_72 (by decide) ?_
                  refine lv_ixor (pc := 73) C.1 C.2.1 dX6_thinOut_73 ?_
                  refine lv_iand (pc := 74) C.1 C.2.1 dX6_thinOut_74 ?_
                  refine stX_30 (pc := 75) C h hw.1 dX6_thinOut_75 (fun z21 ez21 H locs h => ?_)
                  have hw := hw.2 z21 ez21
                  refine lv_iconst (v := 1) (pc := 76) C.1 C.2.1 dX6_thinOut_76 (by decide) ?_
                  refine lv_istore_n (lv' := [(1, .int ((1 : Int32))), (4, .int x12), (0, .ref (a 22)), (2, .int v2), (3, .int v7)]) (pc := 77) C.1 C.2.1 dX6_thinOut_77 rfl hl (by decide) rfl (fun ls hl => ?_)
                  exact hw _ _ _ h (lv_sub hl [2, 0, 3, 4] rfl))
        refine lv_istore_n (lv' := [(3, .int ((0 : Int32))), (0, .ref (a 22)), (1, .int v1), (2, .int v2)]) (pc := 13) C.1 C.2.1 dX6_thinOut_13 rfl hl (by decide) rfl (fun ls hl => ?_)
        exact hw _ _ _ h (lv_sub hl [1, 2, 3, 0] rfl))
  refine lv_istore_n (lv' := [(2, .int ((0 : Int32))), (1, .int ((0 : Int32))), (0, .ref (a 22))]) (pc := 3) C.1 C.2.1 dX6_thinOut_3 rfl hl (by decide) rfl (fun ls hl => ?_)
  exact hw _ _ _ h (lv_sub hl [2, 1, 0] rfl)

def wp_X6_areBorne (b1 : Int32) (b2 : Int32) (b3 : Int32) (b4 : Int32) (z : St) (P : Int32 → Prop) : Prop :=
  (∀ x1 : Int32, x1 = (if b2 < b4 then b4 else b2) → (vp_in b1 16 ∧ (vp_in b3 16 ∧ (∀ x2 : Int32, x2 = (if b4 + (gF z 17 b3.toNatClampNeg) < b2 + (gF z 17 b1.toNatClampNeg) then b4 + (gF z 17 b3.toNatClampNeg) else b2 + (gF z 17 b1.toNatClampNeg)) → (vp_in b1 16 ∧ (∀ x3 : Int32, x3 = gF z 14 b1.toNatClampNeg → (∀ K5 : Int32 → Prop, (∀ (v4 : Int32), (((x2 ≤ v4) → P ((1 : Int32))) ∧ (¬ (x2 ≤ v4) → (vp_in (((b1 * ((4 : Int32))) + v4) - b2) 64 ∧ (vp_in (((b3 * ((4 : Int32))) + v4) - b4) 64 ∧ (∀ x7 : Int32, x7 = (gF z 18 (((b1 * ((4 : Int32))) + v4) - b2).toNatClampNeg) + (gF z 18 (((b3 * ((4 : Int32))) + v4) - b4).toNatClampNeg) → (wp_X0_allDraw v4 z (fun r9 => ((((r9 + x7) ≤ (gI z 706)) → (vp_in b3 16 ∧ (∀ K11 : Prop, ((∀ x12 : Int32, x12 = v4 + (1) → K5 x12) → K11) → (((¬ x3 = (gF z 14 b3.toNatClampNeg)) → K11) ∧ (x3 = (gF z 14 b3.toNatClampNeg) → (wp_X0_draws x3 v4 z (fun r15 => (vp_in x3 4 ∧ ((((r15 + x7) ≤ (gF z 8 x3.toNatClampNeg)) → K11) ∧ (¬ ((r15 + x7) ≤ (gF z 8 x3.toNatClampNeg)) → P ((0 : Int32)))))))))))) ∧ (¬ ((r9 + x7) ≤ (gI z 706)) → P ((0 : Int32))))))))))) → K5 v4) → K5 x1)))))))
set_option maxHeartbeats 4000000 in
set_option maxRecDepth 100000 in
theorem m_X6_areBorne (l : Launch) (D : va_G) (t : Ty3) (a : Nat → Nat) (b1 : Int32) (b2 : Int32) (b3 : Int32) (b4 : Int32) (z : St) (P : Int32 → Prop) (hw : wp_X6_areBorne b1 b2 b3 b4 z P) : CtI l D t yX6_areBorne cX6_areBorne 10 (some .boolean) 1 (wX t a) (wX t a z) [.ref (a 22), .int b1, .int b2, .int b3, .int b4] (fun rr zz => zz = z ∧ P rr) := by
  refine ctI_of (by decide) (Nat.le_of_ble_eq_true rfl) ?_
  intro p e s m args below meth c A ls C hr hlk h hl
  have hl : lv_has ls 10 [(0, .ref (a 22)), (1, .int b1), (2, .int b2), (3, .int b3), (4, .int b4)] := hl
  unfold wp_X6_areBorne at hw
  refine lv_iload_n (pc := 0) C.1 C.2.1 dX6_areBorne_0 rfl (lv_at hl 2 rfl) ?_
  refine lv_iload (pc := 1) C.1 C.2.1 dX6_areBorne_1 (lv_at hl 4 rfl) ?_
  refine r_max (pc := 3) C lm_X6_111 m1_max m2_max m3_max ⟨by decide, by decide⟩ ⟨Nat.zero_le _, Nat.zero_le _⟩ hl.1 (Nat.le_of_ble_eq_true rfl) dX6_areBorne_3 ?_
  refine lv_topi (fun x1 ex1 => ?_)
  have hw := hw x1 ex1
  refine lv_istore (lv' := [(5, .int x1), (0, .ref (a 22)), (1, .int b1), (2, .int b2), (3, .int b3), (4, .int b4)]) (pc := 6) C.1 C.2.1 dX6_areBorne_6 hl (by decide) rfl (fun ls hl => ?_)
  refine lv_iload_n (pc := 8) C.1 C.2.1 dX6_areBorne_8 rfl (lv_at hl 3 rfl) ?_
  refine lv_aload_n (pc := 9) C.1 C.2.1 dX6_areBorne_9 rfl (lv_at hl 1 rfl) ?_
  refine GX_X6_50_22 (pc := 10) C h dX6_areBorne_10 ?_
  refine GX_X6_104_13 (pc := 13) C h dX6_areBorne_13 ?_
  refine lv_iload_n (pc := 16) C.1 C.2.1 dX6_areBorne_16 rfl (lv_at hl 2 rfl) ?_
  refine ldX_17 (pc := 17) C h hw.1 dX6_areBorne_17 ?_
  have hw := hw.2
  refine lv_iadd (pc := 18) C.1 C.2.1 dX6_areBorne_18 ?_
  refine lv_iload (pc := 19) C.1 C.2.1 dX6_areBorne_19 (lv_at hl 5 rfl) ?_
  refine lv_aload_n (pc := 21) C.1 C.2.1 dX6_areBorne_21 rfl (lv_at hl 1 rfl) ?_
  refine GX_X6_50_22 (pc := 22) C h dX6_areBorne_22 ?_
  refine GX_X6_104_13 (pc := 25) C h dX6_areBorne_25 ?_
  refine lv_iload_n (pc := 28) C.1 C.2.1 dX6_areBorne_28 rfl (lv_at hl 4 rfl) ?_
  refine ldX_17 (pc := 29) C h hw.1 dX6_areBorne_29 ?_
  have hw := hw.2
  refine lv_iadd (pc := 30) C.1 C.2.1 dX6_areBorne_30 ?_
  refine r_min (pc := 31) C lm_X6_117 m1_min m2_min m3_min ⟨by decide, by decide⟩ ⟨Nat.zero_le _, Nat.zero_le _⟩ hl.1 (Nat.le_of_ble_eq_true rfl) dX6_areBorne_31 ?_
  refine lv_topi (fun x2 ex2 => ?_)
  have hw := hw x2 ex2
  refine lv_istore (lv' := [(6, .int x2), (5, .int x1), (0, .ref (a 22)), (1, .int b1), (2, .int b2), (3, .int b3), (4, .int b4)]) (pc := 34) C.1 C.2.1 dX6_areBorne_34 hl (by decide) rfl (fun ls hl => ?_)
  refine lv_aload_n (pc := 36) C.1 C.2.1 dX6_areBorne_36 rfl (lv_at hl 2 rfl) ?_
  refine GX_X6_50_22 (pc := 37) C h dX6_areBorne_37 ?_
  refine GX_X6_120_13 (pc := 40) C h dX6_areBorne_40 ?_
  refine lv_iload_n (pc := 43) C.1 C.2.1 dX6_areBorne_43 rfl (lv_at hl 3 rfl) ?_
  refine ldX_14 (pc := 44) C h hw.1 dX6_areBorne_44 ?_
  have hw := hw.2
  refine lv_topi (fun x3 ex3 => ?_)
  have hw := hw x3 ex3
  refine lv_istore (lv' := [(7, .int x3), (6, .int x2), (5, .int x1), (0, .ref (a 22)), (1, .int b1), (2, .int b2), (3, .int b3), (4, .int b4)]) (pc := 45) C.1 C.2.1 dX6_areBorne_45 hl (by decide) rfl (fun ls hl => ?_)
  refine lv_iload (pc := 47) C.1 C.2.1 dX6_areBorne_47 (lv_at hl 2 rfl) ?_
  have hw := hw (fun (v4 : Int32) => ∀ (H : Heap) (locs : List Loc) (ls : Array Slot), wd D t A s (wX t a z) H locs → lv_has ls 10 [(0, .ref (a 22)), (1, .int b1), (2, .int b2), (3, .int b3), (4, .int b4), (6, .int x2), (7, .int x3), (8, .int v4)] → W p l e (rmd 1) s m args below meth c H locs 0 0 (QI D t A (wX t a) (fun rr zz => zz = z ∧ P rr) below args s) (F0 m 51 ls [])) (by
      intro v4 hw H locs ls h hl
      refine lv_iload (pc := 51) C.1 C.2.1 dX6_areBorne_51 (lv_at hl 7 rfl) ?_
      refine lv_iload (pc := 53) C.1 C.2.1 dX6_areBorne_53 (lv_at hl 5 rfl) ?_
      refine lv_icmp_ge (tgt := 167) (pc := 55) C.1 C.2.1 dX6_areBorne_55 (by decide) (fun c6 => ?_) (fun c6 => ?_)
      · have hw := hw.1 c6
        refine lv_iconst (v := 1) (pc := 167) C.1 C.2.1 dX6_areBorne_167 (by decide) ?_
        exact rt_z (pc := 168) C hr hlk h (Or.inr rfl) ⟨rfl, hw⟩ dX6_areBorne_168
      · have hw := hw.2 c6
        refine lv_aload_n (pc := 58) C.1 C.2.1 dX6_areBorne_58 rfl (lv_at hl 0 rfl) ?_
        refine GX_X6_50_22 (pc := 59) C h dX6_areBorne_59 ?_
        refine GX_X6_123_13 (pc := 62) C h dX6_areBorne_62 ?_
        refine lv_iload_n (pc := 65) C.1 C.2.1 dX6_areBorne_65 rfl (lv_at hl 1 rfl) ?_
        refine lv_iconst (v := 4) (pc := 66) C.1 C.2.1 dX6_areBorne_66 (by decide) ?_
        refine lv_imul (pc := 67) C.1 C.2.1 dX6_areBorne_67 ?_
        refine lv_iload (pc := 68) C.1 C.2.1 dX6_areBorne_68 (lv_at hl 7 rfl) ?_
        refine lv_iadd (pc := 70) C.1 C.2.1 dX6_areBorne_70 ?_
        refine lv_iload_n (pc := 71) C.1 C.2.1 dX6_areBorne_71 rfl (lv_at hl 2 rfl) ?_
        refine lv_isub (pc := 72) C.1 C.2.1 dX6_areBorne_72 ?_
        refine ldX_18 (pc := 73) C h hw.1 dX6_areBorne_73 ?_
        have hw := hw.2
        refine lv_aload_n (pc := 74) C.1 C.2.1 dX6_areBorne_74 rfl (lv_at hl 0 rfl) ?_
        refine GX_X6_50_22 (pc := 75) C h dX6_areBorne_75 ?_
        refine GX_X6_123_13 (pc := 78) C h dX6_areBorne_78 ?_
        refine lv_iload_n (pc := 81) C.1 C.2.1 dX6_areBorne_81 rfl (lv_at hl 3 rfl) ?_
        refine lv_iconst (v := 4) (pc := 82) C.1 C.2.1 dX6_areBorne_82 (by decide) ?_
        refine lv_imul (pc := 83) C.1 C.2.1 dX6_areBorne_83 ?_
        refine lv_iload (pc := 84) C.1 C.2.1 dX6_areBorne_84 (lv_at hl 7 rfl) ?_
        refine lv_iadd (pc := 86) C.1 C.2.1 dX6_areBorne_86 ?_
        refine lv_iload (pc := 87) C.1 C.2.1 dX6_areBorne_87 (lv_at hl 4 rfl) ?_
        refine lv_isub (pc := 89) C.1 C.2.1 dX6_areBorne_89 ?_
        refine ldX_18 (pc := 90) C h hw.1 dX6_areBorne_90 ?_
        have hw := hw.2
        refine lv_iadd (pc := 91) C.1 C.2.1 dX6_areBorne_91 ?_
        refine lv_topi (fun x7 ex7 => ?_)
        have hw := hw x7 ex7
        refine lv_istore (lv' := [(9, .int x7), (0, .ref (a 22)), (1, .int b1), (2, .int b2), (3, .int b3), (4, .int b4), (6, .int x2), (7, .int x3), (8, .int v4)]) (pc := 92) C.1 C.2.1 dX6_areBorne_92 hl (by decide) rfl (fun ls hl => ?_)
        refine lv_aload_n (pc := 94) C.1 C.2.1 dX6_areBorne_94 rfl (lv_at hl 1 rfl) ?_
        refine GX_X6_46_22 (pc := 95) C h dX6_areBorne_95 ?_
        refine lv_iload (pc := 98) C.1 C.2.1 dX6_areBorne_98 (lv_at hl 8 rfl) ?_
        refine cl_vi (pc := 100) (As := [.int v4]) (rest := []) C h (m_X0_allDraw l D t a v4 z _ hw) mw_X0_allDraw lm_X6_126 md_X0_allDraw rcX_7 ⟨by decide, by decide⟩ ⟨Nat.zero_le _, Nat.zero_le _⟩ hl.1 rfl (Nat.le_of_ble_eq_true rfl) dX6_areBorne_100 (fun r9 z8 H locs hw h => ?_)
        rw [hw.1] at h
        have hw := hw.2
        refine lv_iload (pc := 103) C.1 C.2.1 dX6_areBorne_103 (lv_at hl 0 rfl) ?_
        refine lv_iadd (pc := 105) C.1 C.2.1 dX6_areBorne_105 ?_
        refine lv_aload_n (pc := 106) C.1 C.2.1 dX6_areBorne_106 rfl (lv_at hl 1 rfl) ?_
        refine GX_X6_46_22 (pc := 107) C h dX6_areBorne_107 ?_
        refine GX_X6_132_7 (pc := 110) C h dX6_areBorne_110 ?_
        refine lv_icmp_le (tgt := 118) (pc := 113) C.1 C.2.1 dX6_areBorne_113 (by decide) (fun c10 => ?_) (fun c10 => ?_)
        · have hw := hw.1 c10
          refine lv_iload (pc := 118) C.1 C.2.1 dX6_areBorne_118 (lv_at hl 7 rfl) ?_
          refine lv_aload_n (pc := 120) C.1 C.2.1 dX6_areBorne_120 rfl (lv_at hl 1 rfl) ?_
          refine GX_X6_50_22 (pc := 121) C h dX6_areBorne_121 ?_
          refine GX_X6_120_13 (pc := 124) C h dX6_areBorne_124 ?_
          refine lv_iload_n (pc := 127) C.1 C.2.1 dX6_areBorne_127 rfl (lv_at hl 4 rfl) ?_
          refine ldX_14 (pc := 128) C h hw.1 dX6_areBorne_128 ?_
          have hw := hw.2
          have hw := hw (∀ (H : Heap) (locs : List Loc) (ls : Array Slot), wd D t A s (wX t a z) H locs → lv_has ls 10 [(0, .ref (a 22)), (1, .int b1), (2, .int b2), (3, .int b3), (4, .int b4), (6, .int x2), (7, .int x3), (8, .int v4)] → W p l e (rmd 1) s m args below meth c H locs 0 0 (QI D t A (wX t a) (fun rr zz => zz = z ∧ P rr) below args s) (F0 m 161 ls [])) (by
              intro hw H locs ls h hl
              obtain ⟨x12, ex12⟩ : ∃ y : Int32, y = v4 + (1) := ⟨_, rfl⟩
              have hw := hw x12 ex12
              refine lv_iinc (v := x12) (lv' := [(8, .int x12), (0, .ref (a 22)), (1, .int b1), (2, .int b2), (3, .int b3), (4, .int b4), (6, .int x2), (7, .int x3)]) (pc := 161) C.1 C.2.1 dX6_areBorne_161 hl (k := 7) rfl (by rw [ex12]; rfl) (by decide) rfl (fun ls hl => ?_)
              refine lv_goto (tgt := 51) (pc := 164) C.1 C.2.1 dX6_areBorne_164 (by decide) ?_
              exact hw _ _ _ h (lv_sub hl [1, 2, 3, 4, 5, 6, 7, 0] rfl))
          refine lv_icmp_ne (tgt := 161) (pc := 129) C.1 C.2.1 dX6_areBorne_129 (by decide) (fun c13 => ?_) (fun c13 => ?_)
          · have hw := hw.1 c13
            exact hw _ _ _ h (lv_sub hl [1, 2, 3, 4, 5, 6, 7, 8] rfl)
          · have hw := hw.2 c13
            refine lv_aload_n (pc := 132) C.1 C.2.1 dX6_areBorne_132 rfl (lv_at hl 1 rfl) ?_
            refine GX_X6_46_22 (pc := 133) C h dX6_areBorne_133 ?_
            refine lv_iload (pc := 136) C.1 C.2.1 dX6_areBorne_136 (lv_at hl 7 rfl) ?_
            refine lv_iload (pc := 138) C.1 C.2.1 dX6_areBorne_138 (lv_at hl 8 rfl) ?_
            refine cl_vi (pc := 140) (As := [.int x3, .int v4]) (rest := []) C h (m_X0_draws l D t a x3 v4 z _ hw) mw_X0_draws lm_X6_135 md_X0_draws rcX_7 ⟨by decide, by decide⟩ ⟨Nat.zero_le _, Nat.zero_le _⟩ hl.1 rfl (Nat.le_of_ble_eq_true rfl) dX6_areBorne_140 (fun r15 z14 H locs hw h => ?_)
            rw [hw.1] at h
            have hw := hw.2
            refine lv_iload (pc := 143) C.1 C.2.1 dX6_areBorne_143 (lv_at hl 0 rfl) ?_
            refine lv_iadd (pc := 145) C.1 C.2.1 dX6_areBorne_145 ?_
            refine lv_aload_n (pc := 146) C.1 C.2.1 dX6_areBorne_146 rfl (lv_at hl 1 rfl) ?_
            refine GX_X6_46_22 (pc := 147) C h dX6_areBorne_147 ?_
            refine GX_X6_138_7 (pc := 150) C h dX6_areBorne_150 ?_
            refine lv_iload (pc := 153) C.1 C.2.1 dX6_areBorne_153 (lv_at hl 7 rfl) ?_
            refine ldX_8 (pc := 155) C h hw.1 dX6_areBorne_155 ?_
            have hw := hw.2
            refine lv_icmp_le (tgt := 161) (pc := 156) C.1 C.2.1 dX6_areBorne_156 (by decide) (fun c16 => ?_) (fun c16 => ?_)
            · have hw := hw.1 c16
              exact hw _ _ _ h (lv_sub hl [1, 2, 3, 4, 5, 6, 7, 8] rfl)
            · have hw := hw.2 c16
              refine lv_iconst (v := 0) (pc := 159) C.1 C.2.1 dX6_areBorne_159 (by decide) ?_
              exact rt_z (pc := 160) C hr hlk h (Or.inl rfl) ⟨rfl, hw⟩ dX6_areBorne_160
        · have hw := hw.2 c10
          refine lv_iconst (v := 0) (pc := 116) C.1 C.2.1 dX6_areBorne_116 (by decide) ?_
          exact rt_z (pc := 117) C hr hlk h (Or.inl rfl) ⟨rfl, hw⟩ dX6_areBorne_117)
  refine lv_istore (lv' := [(8, .int x1), (7, .int x3), (6, .int x2), (5, .int x1), (0, .ref (a 22)), (1, .int b1), (2, .int b2), (3, .int b3), (4, .int b4)]) (pc := 49) C.1 C.2.1 dX6_areBorne_49 hl (by decide) rfl (fun ls hl => ?_)
  exact hw _ _ _ h (lv_sub hl [4, 5, 6, 7, 8, 2, 1, 0] rfl)
