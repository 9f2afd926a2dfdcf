def wp_X9_isStore (b1 : Int32) (z : St) (P : Int32 → St → Prop) : Prop :=
  (wp_X9_in (Int32.toInt64 b1) ((0 : Int64)) ((Int32.toInt64 (gI z 43)) - ((1 : Int64))) z (fun r2 z1 => ((r2 = 0 ∨ r2 = 1) ∧ P r2 z1)))
set_option maxHeartbeats 4000000 in
set_option maxRecDepth 100000 in
theorem m_X9_isStore (l : Launch) (D : va_G) (t : Ty3) (a : Nat → Nat) (b1 : Int32) (z : St) (P : Int32 → St → Prop) (hw : wp_X9_isStore b1 z P) : CtI l D t yX9_isStore cX9_isStore 2 (some .boolean) 1 (wM t a) (wM t a z) [.ref (a 0), .int b1] P := by
  refine ctI_of (by decide) (Nat.le_of_ble_eq_true rfl) ?_
  intro p e s m args below meth c A ls C hr hlk h hl
  have hl : lv_has ls 2 [(0, .ref (a 0)), (1, .int b1)] := hl
  unfold wp_X9_isStore at hw
  refine lv_iload_n (pc := 0) C.1 C.2.1 dX9_isStore_0 rfl (lv_at hl 1 rfl) ?_
  refine lv_i2l (pc := 1) C.1 C.2.1 dX9_isStore_1 rfl ?_
  refine lv_lconst (v := 0) (pc := 2) C.1 C.2.1 dX9_isStore_2 (by decide) ?_
  refine lv_aload_n (pc := 3) C.1 C.2.1 dX9_isStore_3 rfl (lv_at hl 0 rfl) ?_
  refine GM_X9_306_0 (pc := 4) C h dX9_isStore_4 ?_
  refine lv_i2l (pc := 7) C.1 C.2.1 dX9_isStore_7 rfl ?_
  refine lv_lconst (v := 1) (pc := 8) C.1 C.2.1 dX9_isStore_8 (by decide) ?_
  refine lv_lsub (pc := 9) C.1 C.2.1 dX9_isStore_9 ?_
  refine cl_si (pc := 10) (As := [.long (Int32.toInt64 b1), .long ((0 : Int64)), .long ((Int32.toInt64 (gI z 43)) - ((1 : Int64)))]) (rest := []) C h (m_X9_in l D t a (Int32.toInt64 b1) ((0 : Int64)) ((Int32.toInt64 (gI z 43)) - ((1 : Int64))) z _ hw) mw_X9_in lm_X9_139 md_X9_in ⟨by decide, by decide⟩ ⟨Nat.zero_le _, Nat.zero_le _⟩ hl.1 rfl (Nat.le_of_ble_eq_true rfl) dX9_isStore_10 (fun r2 z1 H locs hw h => ?_)
  exact rt_z (pc := 13) C hr hlk h hw.1 hw.2 dX9_isStore_13

def wp_X9_level (b1 : Int32) (b2 : Int32) (z : St) (P : Int32 → St → Prop) : Prop :=
  (∀ z1 : St, z1 = wI z 0 ((0 : Int32)) → (((0 ≤ b2) → (wp_X9_isStore b1 z1 (fun r4 z3 => (((¬ r4 = 0) → (vp_in b1 6 ∧ (((b2 ≤ (gF z3 27 b1.toNatClampNeg)) → (vp_in b1 6 ∧ (∀ x7 : Int32, x7 = gF z3 28 b1.toNatClampNeg → (vp_in b1 6 ∧ (∀ z8 : St, z8 = wR z3 28 (upd (gF z3 28) b1.toNatClampNeg b2) → (wp_X9_told x7 z8 (fun r10 z9 => P r10 z9))))))) ∧ (¬ (b2 ≤ (gF z3 27 b1.toNatClampNeg)) → (wp_X9_told ((-1 : Int32)) z3 (fun r12 z11 => P r12 z11)))))) ∧ (r4 = 0 → (wp_X9_told ((-2 : Int32)) z3 (fun r14 z13 => P r14 z13))))))) ∧ (¬ (0 ≤ b2) → (wp_X9_told ((-1 : Int32)) z1 (fun r16 z15 => P r16 z15)))))
set_option maxHeartbeats 4000000 in
set_option maxRecDepth 100000 in
theorem m_X9_level (l : Launch) (D : va_G) (t : Ty3) (a : Nat → Nat) (b1 : Int32) (b2 : Int32) (z : St) (P : Int32 → St → Prop) (hw : wp_X9_level b1 b2 z P) : CtI l D t yX9_level cX9_level 4 (some .int) 2 (wM t a) (wM t a z) [.ref (a 0), .int b1, .int b2] P := by
  refine ctI_of (by decide) (Nat.le_of_ble_eq_true rfl) ?_
  intro p e s m args below meth c A ls C hr hlk h hl
  have hl : lv_has ls 4 [(0, .ref (a 0)), (1, .int b1), (2, .int b2)] := hl
  unfold wp_X9_level at hw
  refine lv_aload_n (pc := 0) C.1 C.2.1 dX9_level_0 rfl (lv_at hl 0 rfl) ?_
  refine lv_iconst (v := 0) (pc := 1) C.1 C.2.1 dX9_level_1 (by decide) ?_
  refine PM_X9_131_0 (pc := 2) C h dX9_level_2 (fun z1 ez1 H locs h => ?_)
  have hw := hw z1 ez1
  refine lv_iload_n (pc := 5) C.1 C.2.1 dX9_level_5 rfl (lv_at hl 2 rfl) ?_
  refine lv_if_ge (tgt := 15) (pc := 6) C.1 C.2.1 dX9_level_6 (by decide) (fun c2 => ?_) (fun c2 => ?_)
  · have hw := hw.1 c2
    refine lv_aload_n (pc := 15) C.1 C.2.1 dX9_level_15 rfl (lv_at hl 0 rfl) ?_
    refine lv_iload_n (pc := 16) C.1 C.2.1 dX9_level_16 rfl (lv_at hl 1 rfl) ?_
    refine cl_vi (pc := 17) (As := [.int b1]) (rest := []) C h (m_X9_isStore l D t a b1 z1 _ hw) mw_X9_isStore lm_X9_309 md_X9_isStore rcM_0 ⟨by decide, by decide⟩ ⟨Nat.zero_le _, Nat.zero_le _⟩ hl.1 rfl (Nat.le_of_ble_eq_true rfl) dX9_level_17 (fun r4 z3 H locs hw h => ?_)
    refine lv_if_ne (tgt := 30) (pc := 20) C.1 C.2.1 dX9_level_20 (by decide) (fun c5 => ?_) (fun c5 => ?_)
    · have hw := hw.1 c5
      refine lv_iload_n (pc := 30) C.1 C.2.1 dX9_level_30 rfl (lv_at hl 2 rfl) ?_
      refine lv_aload_n (pc := 31) C.1 C.2.1 dX9_level_31 rfl (lv_at hl 0 rfl) ?_
      refine GM_X9_100_0 (pc := 32) C h dX9_level_32 ?_
      refine lv_iload_n (pc := 35) C.1 C.2.1 dX9_level_35 rfl (lv_at hl 1 rfl) ?_
      refine ldM_27 (pc := 36) C h hw.1 dX9_level_36 ?_
      have hw := hw.2
      refine lv_icmp_le (tgt := 46) (pc := 37) C.1 C.2.1 dX9_level_37 (by decide) (fun c6 => ?_) (fun c6 => ?_)
      · have hw := hw.1 c6
        refine lv_aload_n (pc := 46) C.1 C.2.1 dX9_level_46 rfl (lv_at hl 0 rfl) ?_
        refine GM_X9_103_0 (pc := 47) C h dX9_level_47 ?_
        refine lv_iload_n (pc := 50) C.1 C.2.1 dX9_level_50 rfl (lv_at hl 1 rfl) ?_
        refine ldM_28 (pc := 51) C h hw.1 dX9_level_51 ?_
        have hw := hw.2
        refine lv_topi (fun x7 ex7 => ?_)
        have hw := hw x7 ex7
        refine lv_istore_n (lv' := [(3, .int x7), (0, .ref (a 0)), (1, .int b1), (2, .int b2)]) (pc := 52) C.1 C.2.1 dX9_level_52 rfl hl (by decide) rfl (fun ls hl => ?_)
        refine lv_aload_n (pc := 53) C.1 C.2.1 dX9_level_53 rfl (lv_at hl 1 rfl) ?_
        refine GM_X9_103_0 (pc := 54) C h dX9_level_54 ?_
        refine lv_iload_n (pc := 57) C.1 C.2.1 dX9_level_57 rfl (lv_at hl 2 rfl) ?_
        refine lv_iload_n (pc := 58) C.1 C.2.1 dX9_level_58 rfl (lv_at hl 3 rfl) ?_
        refine stM_28 (pc := 59) C h hw.1 dX9_level_59 (fun z8 ez8 H locs h => ?_)
        have hw := hw.2 z8 ez8
        refine lv_aload_n (pc := 60) C.1 C.2.1 dX9_level_60 rfl (lv_at hl 1 rfl) ?_
        refine lv_iload_n (pc := 61) C.1 C.2.1 dX9_level_61 rfl (lv_at hl 0 rfl) ?_
        refine cl_vi (pc := 62) (As := [.int x7]) (rest := []) C h (m_X9_told l D t a x7 z8 _ hw) mw_X9_told lm_X9_162 md_X9_told rcM_0 ⟨by decide, by decide⟩ ⟨Nat.zero_le _, Nat.zero_le _⟩ hl.1 rfl (Nat.le_of_ble_eq_true rfl) dX9_level_62 (fun r10 z9 H locs hw h => ?_)
        exact rt_i (pc := 65) C hr hlk h hw dX9_level_65
      · have hw := hw.2 c6
        refine lv_aload_n (pc := 40) C.1 C.2.1 dX9_level_40 rfl (lv_at hl 0 rfl) ?_
        refine lv_iconst (v := -1) (pc := 41) C.1 C.2.1 dX9_level_41 (by decide) ?_
        refine cl_vi (pc := 42) (As := [.int ((-1 : Int32))]) (rest := []) C h (m_X9_told l D t a ((-1 : Int32)) z3 _ hw) mw_X9_told lm_X9_162 md_X9_told rcM_0 ⟨by decide, by decide⟩ ⟨Nat.zero_le _, Nat.zero_le _⟩ hl.1 rfl (Nat.le_of_ble_eq_true rfl) dX9_level_42 (fun r12 z11 H locs hw h => ?_)
        exact rt_i (pc := 45) C hr hlk h hw dX9_level_45
    · have hw := hw.2 c5
      refine lv_aload_n (pc := 23) C.1 C.2.1 dX9_level_23 rfl (lv_at hl 0 rfl) ?_
      refine lv_bipush (v := -2) (pc := 24) C.1 C.2.1 dX9_level_24 (by decide) ?_
      refine cl_vi (pc := 26) (As := [.int ((-2 : Int32))]) (rest := []) C h (m_X9_told l D t a ((-2 : Int32)) z3 _ hw) mw_X9_told lm_X9_162 md_X9_told rcM_0 ⟨by decide, by decide⟩ ⟨Nat.zero_le _, Nat.zero_le _⟩ hl.1 rfl (Nat.le_of_ble_eq_true rfl) dX9_level_26 (fun r14 z13 H locs hw h => ?_)
      exact rt_i (pc := 29) C hr hlk h hw dX9_level_29
  · have hw := hw.2 c2
    refine lv_aload_n (pc := 9) C.1 C.2.1 dX9_level_9 rfl (lv_at hl 0 rfl) ?_
    refine lv_iconst (v := -1) (pc := 10) C.1 C.2.1 dX9_level_10 (by decide) ?_
    refine cl_vi (pc := 11) (As := [.int ((-1 : Int32))]) (rest := []) C h (m_X9_told l D t a ((-1 : Int32)) z1 _ hw) mw_X9_told lm_X9_162 md_X9_told rcM_0 ⟨by decide, by decide⟩ ⟨Nat.zero_le _, Nat.zero_le _⟩ hl.1 rfl (Nat.le_of_ble_eq_true rfl) dX9_level_11 (fun r16 z15 H locs hw h => ?_)
    exact rt_i (pc := 14) C hr hlk h hw dX9_level_14

def wp_X9_afterwards (b1 : Int32) (b2 : Int32) (z : St) (P : Int32 → St → Prop) : Prop :=
  (vp_in b1 6 ∧ ((((gF z 31 b1.toNatClampNeg) ≤ b2) → (vp_in b1 6 ∧ P (b2 - (gF z 31 b1.toNatClampNeg)) z)) ∧ (¬ ((gF z 31 b1.toNatClampNeg) ≤ b2) → P ((0 : Int32)) z)))
set_option maxHeartbeats 4000000 in
set_option maxRecDepth 100000 in
theorem m_X9_afterwards (l : Launch) (D : va_G) (t : Ty3) (a : Nat → Nat) (b1 : Int32) (b2 : Int32) (z : St) (P : Int32 → St → Prop) (hw : wp_X9_afterwards b1 b2 z P) : CtI l D t yX9_afterwards cX9_afterwards 3 (some .int) 0 (wM t a) (wM t a z) [.ref (a 0), .int b1, .int b2] P := by
  refine ctI_of (by decide) (Nat.le_of_ble_eq_true rfl) ?_
  intro p e s m args below meth c A ls C hr hlk h hl
  have hl : lv_has ls 3 [(0, .ref (a 0)), (1, .int b1), (2, .int b2)] := hl
  unfold wp_X9_afterwards at hw
  refine lv_iload_n (pc := 0) C.1 C.2.1 dX9_afterwards_0 rfl (lv_at hl 2 rfl) ?_
  refine lv_aload_n (pc := 1) C.1 C.2.1 dX9_afterwards_1 rfl (lv_at hl 0 rfl) ?_
  refine GM_X9_112_0 (pc := 2) C h dX9_afterwards_2 ?_
  refine lv_iload_n (pc := 5) C.1 C.2.1 dX9_afterwards_5 rfl (lv_at hl 1 rfl) ?_
  refine ldM_31 (pc := 6) C h hw.1 dX9_afterwards_6 ?_
  have hw := hw.2
  refine lv_icmp_ge (tgt := 14) (pc := 7) C.1 C.2.1 dX9_afterwards_7 (by decide) (fun c1 => ?_) (fun c1 => ?_)
  · have hw := hw.1 c1
    refine lv_iload_n (pc := 14) C.1 C.2.1 dX9_afterwards_14 rfl (lv_at hl 2 rfl) ?_
    refine lv_aload_n (pc := 15) C.1 C.2.1 dX9_afterwards_15 rfl (lv_at hl 0 rfl) ?_
    refine GM_X9_112_0 (pc := 16) C h dX9_afterwards_16 ?_
    refine lv_iload_n (pc := 19) C.1 C.2.1 dX9_afterwards_19 rfl (lv_at hl 1 rfl) ?_
    refine ldM_31 (pc := 20) C h hw.1 dX9_afterwards_20 ?_
    have hw := hw.2
    refine lv_isub (pc := 21) C.1 C.2.1 dX9_afterwards_21 ?_
    exact rt_i (pc := 22) C hr hlk h hw dX9_afterwards_22
  · have hw := hw.2 c1
    refine lv_iconst (v := 0) (pc := 10) C.1 C.2.1 dX9_afterwards_10 (by decide) ?_
    refine lv_goto (tgt := 22) (pc := 11) C.1 C.2.1 dX9_afterwards_11 (by decide) ?_
    exact rt_i (pc := 22) C hr hlk h hw dX9_afterwards_22

def wp_X9_goes (b1 : Int32) (b2 : Int32) (b3 : Int32) (b4 : Int32) (b5 : Int32) (z : St) (P : Int32 → St → Prop) : Prop :=
  (vp_in b1 6 ∧ (wp_X9_in (Int32.toInt64 (b2 + b3)) ((0 : Int64)) (Int32.toInt64 (gF z 27 b1.toNatClampNeg)) z (fun r2 z1 => (((¬ r2 = 0) → (vp_in b1 6 ∧ (∀ x4 : Int32, x4 = b3 * (gF z1 32 b1.toNatClampNeg) → (((b3 = 0) → P ((1 : Int32)) z1) ∧ (¬ (b3 = 0) → (((b3 ≤ 0) → (((b5 < (-x4)) → P ((0 : Int32)) z1) ∧ (¬ (b5 < (-x4)) → P ((1 : Int32)) z1))) ∧ (¬ (b3 ≤ 0) → (vp_in b1 6 ∧ (vp_in (gF z1 26 b1.toNatClampNeg) 4 ∧ ((((gF z1 4 (gF z1 26 b1.toNatClampNeg).toNatClampNeg) < (b5 + x4)) → P ((0 : Int32)) z1) ∧ (¬ ((gF z1 4 (gF z1 26 b1.toNatClampNeg).toNatClampNeg) < (b5 + x4)) → P ((1 : Int32)) z1))))))))))) ∧ (r2 = 0 → P ((0 : Int32)) z1)))))
set_option maxHeartbeats 4000000 in
set_option maxRecDepth 100000 in
theorem m_X9_goes (l : Launch) (D : va_G) (t : Ty3) (a : Nat → Nat) (b1 : Int32) (b2 : Int32) (b3 : Int32) (b4 : Int32) (b5 : Int32) (z : St) (P : Int32 → St → Prop) (hw : wp_X9_goes b1 b2 b3 b4 b5 z P) : CtI l D t yX9_goes cX9_goes 7 (some .boolean) 1 (wM t a) (wM t a z) [.ref (a 0), .int b1, .int b2, .int b3, .int b4, .int b5] P := by
  refine ctI_of (by decide) (Nat.le_of_ble_eq_true rfl) ?_
  intro p e s m args below meth c A ls C hr hlk h hl
  have hl : lv_has ls 7 [(0, .ref (a 0)), (1, .int b1), (2, .int b2), (3, .int b3), (4, .int b4), (5, .int b5)] := hl
  unfold wp_X9_goes at hw
  refine lv_iload_n (pc := 0) C.1 C.2.1 dX9_goes_0 rfl (lv_at hl 2 rfl) ?_
  refine lv_iload_n (pc := 1) C.1 C.2.1 dX9_goes_1 rfl (lv_at hl 3 rfl) ?_
  refine lv_iadd (pc := 2) C.1 C.2.1 dX9_goes_2 ?_
  refine lv_i2l (pc := 3) C.1 C.2.1 dX9_goes_3 rfl ?_
  refine lv_lconst (v := 0) (pc := 4) C.1 C.2.1 dX9_goes_4 (by decide) ?_
  refine lv_aload_n (pc := 5) C.1 C.2.1 dX9_goes_5 rfl (lv_at hl 0 rfl) ?_
  refine GM_X9_100_0 (pc := 6) C h dX9_goes_6 ?_
  refine lv_iload_n (pc := 9) C.1 C.2.1 dX9_goes_9 rfl (lv_at hl 1 rfl) ?_
  refine ldM_27 (pc := 10) C h hw.1 dX9_goes_10 ?_
  have hw := hw.2
  refine lv_i2l (pc := 11) C.1 C.2.1 dX9_goes_11 rfl ?_
  refine cl_si (pc := 12) (As := [.long (Int32.toInt64 (b2 + b3)), .long ((0 : Int64)), .long (Int32.toInt64 (gF z 27 b1.toNatClampNeg))]) (rest := []) C h (m_X9_in l D t a (Int32.toInt64 (b2 + b3)) ((0 : Int64)) (Int32.toInt64 (gF z 27 b1.toNatClampNeg)) z _ hw) mw_X9_in lm_X9_139 md_X9_in ⟨by decide, by decide⟩ ⟨Nat.zero_le _, Nat.zero_le _⟩ hl.1 rfl (Nat.le_of_ble_eq_true rfl) dX9_goes_12 (fun r2 z1 H locs hw h => ?_)
  refine lv_if_ne (tgt := 20) (pc := 15) C.1 C.2.1 dX9_goes_15 (by decide) (fun c3 => ?_) (fun c3 => ?_)
  · have hw := hw.1 c3
    refine lv_iload_n (pc := 20) C.1 C.2.1 dX9_goes_20 rfl (lv_at hl 3 rfl) ?_
    refine lv_aload_n (pc := 21) C.1 C.2.1 dX9_goes_21 rfl (lv_at hl 0 rfl) ?_
    refine GM_X9_115_0 (pc := 22) C h dX9_goes_22 ?_
    refine lv_iload_n (pc := 25) C.1 C.2.1 dX9_goes_25 rfl (lv_at hl 1 rfl) ?_
    refine ldM_32 (pc := 26) C h hw.1 dX9_goes_26 ?_
    have hw := hw.2
    refine lv_imul (pc := 27) C.1 C.2.1 dX9_goes_27 ?_
    refine lv_topi (fun x4 ex4 => ?_)
    have hw := hw x4 ex4
    refine lv_istore (lv' := [(6, .int x4), (0, .ref (a 0)), (1, .int b1), (2, .int b2), (3, .int b3), (4, .int b4), (5, .int b5)]) (pc := 28) C.1 C.2.1 dX9_goes_28 hl (by decide) rfl (fun ls hl => ?_)
    refine lv_iload_n (pc := 30) C.1 C.2.1 dX9_goes_30 rfl (lv_at hl 4 rfl) ?_
    refine lv_if_eq (tgt := 68) (pc := 31) C.1 C.2.1 dX9_goes_31 (by decide) (fun c5 => ?_) (fun c5 => ?_)
    · have hw := hw.1 c5
      refine lv_iconst (v := 1) (pc := 68) C.1 C.2.1 dX9_goes_68 (by decide) ?_
      refine lv_goto (tgt := 73) (pc := 69) C.1 C.2.1 dX9_goes_69 (by decide) ?_
      exact rt_z (pc := 73) C hr hlk h (Or.inr rfl) hw dX9_goes_73
    · have hw := hw.2 c5
      refine lv_iload_n (pc := 34) C.1 C.2.1 dX9_goes_34 rfl (lv_at hl 4 rfl) ?_
      refine lv_if_le (tgt := 60) (pc := 35) C.1 C.2.1 dX9_goes_35 (by decide) (fun c6 => ?_) (fun c6 => ?_)
      · have hw := hw.1 c6
        refine lv_iload (pc := 60) C.1 C.2.1 dX9_goes_60 (lv_at hl 0 rfl) ?_
        refine lv_ineg (pc := 62) C.1 C.2.1 dX9_goes_62 ?_
        refine lv_iload (pc := 63) C.1 C.2.1 dX9_goes_63 (lv_at hl 6 rfl) ?_
        refine lv_icmp_gt (tgt := 72) (pc := 65) C.1 C.2.1 dX9_goes_65 (by decide) (fun c7 => ?_) (fun c7 => ?_)
        · have hw := hw.1 c7
          refine lv_iconst (v := 0) (pc := 72) C.1 C.2.1 dX9_goes_72 (by decide) ?_
          exact rt_z (pc := 73) C hr hlk h (Or.inl rfl) hw dX9_goes_73
        · have hw := hw.2 c7
          refine lv_iconst (v := 1) (pc := 68) C.1 C.2.1 dX9_goes_68 (by decide) ?_
          refine lv_goto (tgt := 73) (pc := 69) C.1 C.2.1 dX9_goes_69 (by decide) ?_
          exact rt_z (pc := 73) C hr hlk h (Or.inr rfl) hw dX9_goes_73
      · have hw := hw.2 c6
        refine lv_iload (pc := 38) C.1 C.2.1 dX9_goes_38 (lv_at hl 6 rfl) ?_
        refine lv_iload (pc := 40) C.1 C.2.1 dX9_goes_40 (lv_at hl 0 rfl) ?_
        refine lv_iadd (pc := 42) C.1 C.2.1 dX9_goes_42 ?_
        refine lv_aload_n (pc := 43) C.1 C.2.1 dX9_goes_43 rfl (lv_at hl 1 rfl) ?_
        refine GM_X9_23_0 (pc := 44) C h dX9_goes_44 ?_
        refine lv_aload_n (pc := 47) C.1 C.2.1 dX9_goes_47 rfl (lv_at hl 1 rfl) ?_
        refine GM_X9_97_0 (pc := 48) C h dX9_goes_48 ?_
        refine lv_iload_n (pc := 51) C.1 C.2.1 dX9_goes_51 rfl (lv_at hl 2 rfl) ?_
        refine ldM_26 (pc := 52) C h hw.1 dX9_goes_52 ?_
        have hw := hw.2
        refine ldM_4 (pc := 53) C h hw.1 dX9_goes_53 ?_
        have hw := hw.2
        refine lv_icmp_gt (tgt := 72) (pc := 54) C.1 C.2.1 dX9_goes_54 (by decide) (fun c8 => ?_) (fun c8 => ?_)
        · have hw := hw.1 c8
          refine lv_iconst (v := 0) (pc := 72) C.1 C.2.1 dX9_goes_72 (by decide) ?_
          exact rt_z (pc := 73) C hr hlk h (Or.inl rfl) hw dX9_goes_73
        · have hw := hw.2 c8
          refine lv_goto (tgt := 68) (pc := 57) C.1 C.2.1 dX9_goes_57 (by decide) ?_
          refine lv_iconst (v := 1) (pc := 68) C.1 C.2.1 dX9_goes_68 (by decide) ?_
          refine lv_goto (tgt := 73) (pc := 69) C.1 C.2.1 dX9_goes_69 (by decide) ?_
          exact rt_z (pc := 73) C hr hlk h (Or.inr rfl) hw dX9_goes_73
  · have hw := hw.2 c3
    refine lv_iconst (v := 0) (pc := 18) C.1 C.2.1 dX9_goes_18 (by decide) ?_
    exact rt_z (pc := 19) C hr hlk h (Or.inl rfl) hw dX9_goes_19

def wp_X9_fill (b1 : Int32) (b2 : Int32) (b3 : Int32) (z : St) (P : Int64 → St → Prop) : Prop :=
  (∀ z1 : St, z1 = wI z 0 ((0 : Int32)) → (wp_X9_in (Int32.toInt64 b2) ((1 : Int64)) ((48 : Int64)) z1 (fun r3 z2 => (∀ K4 : St → Prop, (∀ (z5 : St), (∀ z6 : St, z6 = wI z5 1 ((-1 : Int32)) → P ((-4000000000000000001 : Int64)) z6) → K4 z5) → (((r3 = 0) → K4 z2) ∧ (¬ (r3 = 0) → (((((168 : Int32)) < ((gI z2 2) + b2)) → K4 z2) ∧ (¬ (((168 : Int32)) < ((gI z2 2) + b2)) → (((b3 < 0) → K4 z2) ∧ (¬ (b3 < 0) → (wp_X9_isStore b1 z2 (fun r11 z10 => (∀ K12 : St → Prop, (∀ (z13 : St), (wp_X9_isStore b1 z13 (fun r15 z14 => (((¬ r15 = 0) → (vp_in b1 6 ∧ (∀ x17 : Int32, x17 = (gF z14 27 b1.toNatClampNeg) + ((1 : Int32)) → (∀ K20 : Int32 → Int32 → St → Prop, (∀ (v18 : Int32) (v19 : Int32) (z21 : St), (((v18 ≤ v19) → (∀ K25 : Int32 → Int32 → St → Prop, (∀ (v23 : Int32) (v24 : Int32) (z26 : St), (((v24 < 0) → (vp_in b1 6 ∧ (vp_in (gF z26 28 b1.toNatClampNeg) 2009 ∧ (((¬ (gF z26 34 (gF z26 28 b1.toNatClampNeg).toNatClampNeg) = 0) → (vp_in b1 6 ∧ (∀ x29 : Int32, x29 = gF z26 28 b1.toNatClampNeg → (∀ K32 : Int32 → Int32 → St → Prop, (∀ (v30 : Int32) (v31 : Int32) (z33 : St), (((b2 ≤ v31) → (∀ z35 : St, z35 = wI z33 55 b2 → (∀ z36 : St, z36 = wI z35 1 ((0 : Int32)) → (vp_in b1 6 ∧ (vp_in (gF z36 28 b1.toNatClampNeg) 2009 ∧ P (gG z36 33 (gF z36 28 b1.toNatClampNeg).toNatClampNeg) z36))))) ∧ (¬ (b2 ≤ v31) → (vp_in b1 6 ∧ (wp_X9_loadOf (gF z33 26 b1.toNatClampNeg) ((gI z33 2) + v31) ((-1 : Int32)) z33 (fun r38 z37 => (wp_X9_priceOf ((gI z37 2) + v31) (gI z37 2) z37 (fun r40 z39 => (vp_in b1 6 ∧ (∀ x41 : Int64, x41 = (Int32.toInt64 r40) * (Int32.toInt64 (gF z39 32 b1.toNatClampNeg)) → (vp_in b1 6 ∧ (∀ x42 : Int32, x42 = -(gF z39 30 b1.toNatClampNeg) → (∀ K49 : Int32 → Int32 → Int32 → Int64 → Int32 → Int32 → St → Prop, (∀ (v43 : Int32) (v44 : Int32) (v45 : Int32) (v46 : Int64) (v47 : Int32) (v48 : Int32) (z50 : St), (((¬ v48 = 0) → (vp_in v44 48 ∧ (∀ z52 : St, z52 = wR z50 35 (upd (gF z50 35) v44.toNatClampNeg v47) → (wp_X9_afterwards b1 (v43 + v47) z52 (fun r54 z53 => (vp_in v44 48 ∧ (∀ z55 : St, z55 = wR z53 36 (upd (gF z53 36) v44.toNatClampNeg r54) → (∀ x56 : Int32, x56 = v44 + (1) → K32 r54 x56 z55)))))))) ∧ (v48 = 0 → (wp_X9_goes b1 v43 v47 ((gI z50 2) + v44) v45 z50 (fun r58 z57 => (∀ K66 : Int32 → Int32 → Int32 → Int64 → Int32 → Int32 → Int32 → St → Prop, (∀ (v59 : Int32) (v60 : Int32) (v61 : Int32) (v62 : Int64) (v63 : Int32) (v64 : Int32) (s65 : Int32) (z67 : St), (∀ K74 : Int32 → Int32 → Int32 → Int64 → Int32 → Int32 → St → Prop, (∀ (v68 : Int32) (v69 : Int32) (v70 : Int32) (v71 : Int64) (v72 : Int32) (s73 : Int32) (z75 : St), (∀ K83 : Int32 → Int32 → Int32 → Int64 → Int32 → Int32 → Int32 → St → Prop, (∀ (v76 : Int32) (v77 : Int32) (v78 : Int32) (v79 : Int64) (v80 : Int32) (s81 : Int32) (s82 : Int32) (z84 : St), (∀ x85 : Int32, x85 = s82 + s81 → K49 v76 v77 v78 v79 x85 v80 z84) → K83 v76 v77 v78 v79 v80 s81 s82 z84) → (((s73 = 0) → K83 v68 v69 v70 v71 s73 ((1 : Int32)) v72 z75) ∧ (¬ (s73 = 0) → K83 v68 v69 v70 v71 s73 ((0 : Int32)) v72 z75))) → K74 v68 v69 v70 v71 v72 s73 z75) → (∀ K92 : Int32 → Int32 → Int32 → Int64 → Int32 → St → Prop, (∀ (v87 : Int32) (v88 : Int32) (v89 : Int32) (v90 : Int64) (v91 : Int32) (z93 : St), K74 v87 v88 v89 v90 v91 ((0 : Int32)) z93 → K92 v87 v88 v89 v90 v91 z93) → (((v64 = 0) → K92 v59 v60 v61 v62 v63 z67) ∧ (¬ (v64 = 0) → (vp_in s65 2009 ∧ ((((gF z67 34 s65.toNatClampNeg) = 0) → K92 v59 v60 v61 v62 v63 z67) ∧ (¬ ((gF z67 34 s65.toNatClampNeg) = 0) → (vp_in s65 2009 ∧ (vp_in ((((41 : Int32)) * v60) + v59) 2009 ∧ (((¬ (lg_cmp ((gG z67 33 s65.toNatClampNeg) + ((Int32.toInt64 v63) * v62)) (gG z67 33 ((((41 : Int32)) * v60) + v59).toNatClampNeg)) = 0) → K92 v59 v60 v61 v62 v63 z67) ∧ ((lg_cmp ((gG z67 33 s65.toNatClampNeg) + ((Int32.toInt64 v63) * v62)) (gG z67 33 ((((41 : Int32)) * v60) + v59).toNatClampNeg)) = 0 → K74 v59 v60 v61 v62 v63 ((1 : Int32)) z67))))))))))) → K66 v59 v60 v61 v62 v63 v64 s65 z67) → (((r58 = 0) → K66 v43 v44 v45 v46 v47 r58 ((0 : Int32)) z57) ∧ (¬ (r58 = 0) → (wp_X9_afterwards b1 (v43 + v47) z57 (fun r99 z98 => K66 v43 v44 v45 v46 v47 r58 (((((41 : Int32)) * v44) + ((41 : Int32))) + r99) z98))))))))) → K49 v43 v44 v45 v46 v47 v48 z50) → K49 v30 v31 r38 x41 x42 ((0 : Int32)) z39)))))))))))) → K32 v30 v31 z33) → K32 x29 ((0 : Int32)) z26)))) ∧ ((gF z26 34 (gF z26 28 b1.toNatClampNeg).toNatClampNeg) = 0 → (∀ z100 : St, z100 = wI z26 1 ((-6 : Int32)) → P ((-4000000000000000006 : Int64)) z100)))))) ∧ (¬ (v24 < 0) → (vp_in b1 6 ∧ (wp_X9_loadOf (gF z26 26 b1.toNatClampNeg) ((gI z26 2) + v24) ((-1 : Int32)) z26 (fun r102 z101 => (wp_X9_priceOf ((gI z101 2) + v24) (gI z101 2) z101 (fun r104 z103 => (vp_in b1 6 ∧ (∀ x105 : Int64, x105 = (Int32.toInt64 r104) * (Int32.toInt64 (gF z103 32 b1.toNatClampNeg)) → (∀ K111 : Int32 → Int32 → Int32 → Int64 → Int32 → St → Prop, (∀ (v106 : Int32) (v107 : Int32) (v108 : Int32) (v109 : Int64) (v110 : Int32) (z112 : St), (((v106 ≤ v110) → (∀ x114 : Int32, x114 = v107 + (-1) → K25 v106 x114 z112)) ∧ (¬ (v106 ≤ v110) → (vp_in ((((41 : Int32)) * v107) + v110) 2009 ∧ (∀ z115 : St, z115 = wR z112 34 (upd (gF z112 34) ((((41 : Int32)) * v107) + v110).toNatClampNeg (vp_nar .boolean ((0 : Int32)))) → (vp_in b1 6 ∧ (∀ K122 : Int32 → Int32 → Int32 → Int64 → Int32 → Int32 → St → Prop, (∀ (v116 : Int32) (v117 : Int32) (v118 : Int32) (v119 : Int64) (v120 : Int32) (v121 : Int32) (z123 : St), (vp_in b1 6 ∧ ((((gF z123 29 b1.toNatClampNeg) < v121) → (∀ x125 : Int32, x125 = v120 + (1) → K111 v116 v117 v118 v119 x125 z123)) ∧ (¬ ((gF z123 29 b1.toNatClampNeg) < v121) → (wp_X9_goes b1 v120 v121 ((gI z123 2) + v117) v118 z123 (fun r127 z126 => (∀ K134 : Int32 → Int32 → Int32 → Int64 → Int32 → Int32 → St → Prop, (∀ (v128 : Int32) (v129 : Int32) (v130 : Int32) (v131 : Int64) (v132 : Int32) (v133 : Int32) (z135 : St), (∀ x136 : Int32, x136 = v133 + (1) → K122 v128 v129 v130 v131 v132 x136 z135) → K134 v128 v129 v130 v131 v132 v133 z135) → (((¬ r127 = 0) → (wp_X9_afterwards b1 (v120 + v121) z126 (fun r139 z138 => (∀ x140 : Int32, x140 = ((((41 : Int32)) * v117) + ((41 : Int32))) + r139 → (vp_in x140 2009 ∧ ((((gF z138 34 x140.toNatClampNeg) = 0) → K134 v116 v117 v118 v119 v120 v121 z138) ∧ (¬ ((gF z138 34 x140.toNatClampNeg) = 0) → (vp_in ((((41 : Int32)) * v117) + v120) 2009 ∧ (∀ K149 : Int32 → Int32 → Int32 → Int64 → Int32 → Int32 → Int32 → St → Prop, (∀ (v142 : Int32) (v143 : Int32) (v144 : Int32) (v145 : Int64) (v146 : Int32) (v147 : Int32) (v148 : Int32) (z150 : St), (vp_in ((((41 : Int32)) * v143) + v146) 2009 ∧ (∀ z151 : St, z151 = wR z150 34 (upd (gF z150 34) ((((41 : Int32)) * v143) + v146).toNatClampNeg (vp_nar .boolean ((1 : Int32)))) → (vp_in v148 2009 ∧ (vp_in ((((41 : Int32)) * v143) + v146) 2009 ∧ (∀ z152 : St, z152 = wL z151 33 (vp_updL (gG z151 33) ((((41 : Int32)) * v143) + v146).toNatClampNeg ((gG z151 33 v148.toNatClampNeg) + ((Int32.toInt64 v147) * v145))) → K134 v142 v143 v144 v145 v146 v147 z152))))) → K149 v142 v143 v144 v145 v146 v147 v148 z150) → ((((gF z138 34 ((((41 : Int32)) * v117) + v120).toNatClampNeg) = 0) → K149 v116 v117 v118 v119 v120 v121 x140 z138) ∧ (¬ ((gF z138 34 ((((41 : Int32)) * v117) + v120).toNatClampNeg) = 0) → (vp_in x140 2009 ∧ (vp_in ((((41 : Int32)) * v117) + v120) 2009 ∧ (((0 ≤ (lg_cmp ((gG z138 33 x140.toNatClampNeg) + ((Int32.toInt64 v121) * v119)) (gG z138 33 ((((41 : Int32)) * v117) + v120).toNatClampNeg))) → K134 v116 v117 v118 v119 v120 v121 z138) ∧ (¬ (0 ≤ (lg_cmp ((gG z138 33 x140.toNatClampNeg) + ((Int32.toInt64 v121) * v119)) (gG z138 33 ((((41 : Int32)) * v117) + v120).toNatClampNeg))) → K149 v116 v117 v118 v119 v120 v121 x140 z138))))))))))))))) ∧ (r127 = 0 → K134 v116 v117 v118 v119 v120 v121 z126)))))))) → K122 v116 v117 v118 v119 v120 v121 z123) → (∀ x155 : Int32, x155 = -(gF z115 30 b1.toNatClampNeg) → K122 v106 v107 v108 v109 v110 x155 z115))))))) → K111 v106 v107 v108 v109 v110 z112) → K111 v23 v24 r102 x105 ((0 : Int32)) z103)))))))))) → K25 v23 v24 z26) → (∀ x156 : Int32, x156 = b2 - ((1 : Int32)) → K25 v18 x156 z21))) ∧ (¬ (v18 ≤ v19) → (vp_in ((((41 : Int32)) * b2) + v19) 2009 ∧ (∀ z157 : St, z157 = wL z21 33 (vp_updL (gG z21 33) ((((41 : Int32)) * b2) + v19).toNatClampNeg ((0 : Int64))) → (∀ K162 : Int32 → Int32 → Int32 → Int32 → St → Prop, (∀ (v158 : Int32) (v159 : Int32) (s160 : Int32) (s161 : Int32) (z163 : St), (vp_in s161 2009 ∧ (∀ z164 : St, z164 = wR z163 34 (upd (gF z163 34) s161.toNatClampNeg (vp_nar .boolean s160)) → (∀ x165 : Int32, x165 = v159 + (1) → K20 v158 x165 z164))) → K162 v158 v159 s160 s161 z163) → (((v19 < b3) → K162 v18 v19 ((0 : Int32)) ((((41 : Int32)) * b2) + v19) z157) ∧ (¬ (v19 < b3) → K162 v18 v19 ((1 : Int32)) ((((41 : Int32)) * b2) + v19) z157))))))) → K20 v18 v19 z21) → K20 x17 ((0 : Int32)) z14)))) ∧ (r15 = 0 → (∀ z167 : St, z167 = wI z14 1 ((-2 : Int32)) → P ((-4000000000000000002 : Int64)) z167))))) → K12 z13) → (((r11 = 0) → K12 z10) ∧ (¬ (r11 = 0) → (vp_in b1 6 ∧ (((b3 ≤ (gF z10 27 b1.toNatClampNeg)) → K12 z10) ∧ (¬ (b3 ≤ (gF z10 27 b1.toNatClampNeg)) → K4 z10))))))))))))))))))
set_option maxHeartbeats 4000000 in
set_option maxRecDepth 100000 in
theorem m_X9_fill (l : Launch) (D : va_G) (t : Ty3) (a : Nat → Nat) (b1 : Int32) (b2 : Int32) (b3 : Int32) (z : St) (P : Int64 → St → Prop) (hw : wp_X9_fill b1 b2 b3 z P) : CtL l D t yX9_fill cX9_fill 13 (some .long) 3 (wM t a) (wM t a z) [.ref (a 0), .int b1, .int b2, .int b3] P := by
  refine ctL_of (by decide) (Nat.le_of_ble_eq_true rfl) ?_
  intro p e s m args below meth c A ls C hr hlk h hl
  have hl : lv_has ls 13 [(0, .ref (a 0)), (1, .int b1), (2, .int b2), (3, .int b3)] := hl
  unfold wp_X9_fill at hw
  refine lv_aload_n (pc := 0) C.1 C.2.1 dX9_fill_0 rfl (lv_at hl 0 rfl) ?_
  refine lv_iconst (v := 0) (pc := 1) C.1 C.2.1 dX9_fill_1 (by decide) ?_
  refine PM_X9_131_0 (pc := 2) C h dX9_fill_2 (fun z1 ez1 H locs h => ?_)
  have hw := hw z1 ez1
  refine lv_iload_n (pc := 5) C.1 C.2.1 dX9_fill_5 rfl (lv_at hl 2 rfl) ?_
  refine lv_i2l (pc := 6) C.1 C.2.1 dX9_fill_6 rfl ?_
  refine lv_lconst (v := 1) (pc := 7) C.1 C.2.1 dX9_fill_7 (by decide) ?_
  refine lv_ldc2 (pc := 8) C.1 C.2.1 C.2.2.2.1 (C.2.2.2.2 _ lc_X9_241) dX9_fill_8 ?_
  refine cl_si (pc := 11) (As := [.long (Int32.toInt64 b2), .long ((1 : Int64)), .long ((48 : Int64))]) (rest := []) C h (m_X9_in l D t a (Int32.toInt64 b2) ((1 : Int64)) ((48 : Int64)) z1 _ hw) mw_X9_in lm_X9_139 md_X9_in ⟨by decide, by decide⟩ ⟨Nat.zero_le _, Nat.zero_le _⟩ hl.1 rfl (Nat.le_of_ble_eq_true rfl) dX9_fill_11 (fun r3 z2 H locs hw h => ?_)
  have hw := hw (fun (z5 : St) => ∀ (H : Heap) (locs : List Loc) (ls : Array Slot), wd D t A s (wM t a z5) H locs → lv_has ls 13 [(0, .ref (a 0))] → W p l e (rmd 3) s m args below meth c H locs 0 0 (QL D t A (wM t a) P below args s) (F0 m 51 ls [])) (by
      intro z5 hw H locs ls h hl
      refine lv_aload_n (pc := 51) C.1 C.2.1 dX9_fill_51 rfl (lv_at hl 0 rfl) ?_
      refine lv_iconst (v := -1) (pc := 52) C.1 C.2.1 dX9_fill_52 (by decide) ?_
      refine PM_X9_134_0 (pc := 53) C h dX9_fill_53 (fun z6 ez6 H locs h => ?_)
      have hw := hw z6 ez6
      refine lv_ldc2 (pc := 56) C.1 C.2.1 C.2.2.2.1 (C.2.2.2.2 _ lc_X9_312) dX9_fill_56 ?_
      exact rt_l (pc := 59) C hr hlk h hw dX9_fill_59)
  refine lv_if_eq (tgt := 51) (pc := 14) C.1 C.2.1 dX9_fill_14 (by decide) (fun c7 => ?_) (fun c7 => ?_)
  · have hw := hw.1 c7
    exact hw _ _ _ h (lv_sub hl [0] rfl)
  · have hw := hw.2 c7
    refine lv_aload_n (pc := 17) C.1 C.2.1 dX9_fill_17 rfl (lv_at hl 0 rfl) ?_
    refine GM_X9_173_0 (pc := 18) C h dX9_fill_18 ?_
    refine lv_iload_n (pc := 21) C.1 C.2.1 dX9_fill_21 rfl (lv_at hl 2 rfl) ?_
    refine lv_iadd (pc := 22) C.1 C.2.1 dX9_fill_22 ?_
    refine lv_sipush (v := 168) (pc := 23) C.1 C.2.1 dX9_fill_23 (by decide) ?_
    refine lv_icmp_gt (tgt := 51) (pc := 26) C.1 C.2.1 dX9_fill_26 (by decide) (fun c8 => ?_) (fun c8 => ?_)
    · have hw := hw.1 c8
      exact hw _ _ _ h (lv_sub hl [0] rfl)
    · have hw := hw.2 c8
      refine lv_iload_n (pc := 29) C.1 C.2.1 dX9_fill_29 rfl (lv_at hl 3 rfl) ?_
      refine lv_if_lt (tgt := 51) (pc := 30) C.1 C.2.1 dX9_fill_30 (by decide) (fun c9 => ?_) (fun c9 => ?_)
      · have hw := hw.1 c9
        exact hw _ _ _ h (lv_sub hl [0] rfl)
      · have hw := hw.2 c9
        refine lv_aload_n (pc := 33) C.1 C.2.1 dX9_fill_33 rfl (lv_at hl 0 rfl) ?_
        refine lv_iload_n (pc := 34) C.1 C.2.1 dX9_fill_34 rfl (lv_at hl 1 rfl) ?_
        refine cl_vi (pc := 35) (As := [.int b1]) (rest := []) C h (m_X9_isStore l D t a b1 z2 _ hw) mw_X9_isStore lm_X9_309 md_X9_isStore rcM_0 ⟨by decide, by decide⟩ ⟨Nat.zero_le _, Nat.zero_le _⟩ hl.1 rfl (Nat.le_of_ble_eq_true rfl) dX9_fill_35 (fun r11 z10 H locs hw h => ?_)
        have hw := hw (fun (z13 : St) => ∀ (H : Heap) (locs : List Loc) (ls : Array Slot), wd D t A s (wM t a z13) H locs → lv_has ls 13 [(0, .ref (a 0)), (1, .int b1), (2, .int b2), (3, .int b3)] → W p l e (rmd 3) s m args below meth c H locs 0 0 (QL D t A (wM t a) P below args s) (F0 m 60 ls [])) (by
            intro z13 hw H locs ls h hl
            refine lv_aload_n (pc := 60) C.1 C.2.1 dX9_fill_60 rfl (lv_at hl 0 rfl) ?_
            refine lv_iload_n (pc := 61) C.1 C.2.1 dX9_fill_61 rfl (lv_at hl 1 rfl) ?_
            refine cl_vi (pc := 62) (As := [.int b1]) (rest := []) C h (m_X9_isStore l D t a b1 z13 _ hw) mw_X9_isStore lm_X9_309 md_X9_isStore rcM_0 ⟨by decide, by decide⟩ ⟨Nat.zero_le _, Nat.zero_le _⟩ hl.1 rfl (Nat.le_of_ble_eq_true rfl) dX9_fill_62 (fun r15 z14 H locs hw h => ?_)
            refine lv_if_ne (tgt := 78) (pc := 65) C.1 C.2.1 dX9_fill_65 (by decide) (fun c16 => ?_) (fun c16 => ?_)
            · have hw := hw.1 c16
              refine lv_aload_n (pc := 78) C.1 C.2.1 dX9_fill_78 rfl (lv_at hl 0 rfl) ?_
              refine GM_X9_100_0 (pc := 79) C h dX9_fill_79 ?_
              refine lv_iload_n (pc := 82) C.1 C.2.1 dX9_fill_82 rfl (lv_at hl 1 rfl) ?_
              refine ldM_27 (pc := 83) C h hw.1 dX9_fill_83 ?_
              have hw := hw.2
              refine lv_iconst (v := 1) (pc := 84) C.1 C.2.1 dX9_fill_84 (by decide) ?_
              refine lv_iadd (pc := 85) C.1 C.2.1 dX9_fill_85 ?_
              refine lv_topi (fun x17 ex17 => ?_)
              have hw := hw x17 ex17
              refine lv_istore (lv' := [(4, .int x17), (0, .ref (a 0)), (1, .int b1), (2, .int b2), (3, .int b3)]) (pc := 86) C.1 C.2.1 dX9_fill_86 hl (by decide) rfl (fun ls hl => ?_)
              refine lv_iconst (v := 0) (pc := 88) C.1 C.2.1 dX9_fill_88 (by decide) ?_
              have hw := hw (fun (v18 : Int32) (v19 : Int32) (z21 : St) => ∀ (H : Heap) (locs : List Loc) (ls : Array Slot), wd D t A s (wM t a z21) H locs → lv_has ls 13 [(0, .ref (a 0)), (1, .int b1), (2, .int b2), (3, .int b3), (4, .int v18), (5, .int v19)] → W p l e (rmd 3) s m args below meth c H locs 0 0 (QL D t A (wM t a) P below args s) (F0 m 91 ls [])) (by
                  intro v18 v19 z21 hw H locs ls h hl
                  refine lv_iload (pc := 91) C.1 C.2.1 dX9_fill_91 (lv_at hl 5 rfl) ?_
                  refine lv_iload (pc := 93) C.1 C.2.1 dX9_fill_93 (lv_at hl 4 rfl) ?_
                  refine lv_icmp_ge (tgt := 140) (pc := 95) C.1 C.2.1 dX9_fill_95 (by decide) (fun c22 => ?_) (fun c22 => ?_)
                  · have hw := hw.1 c22
                    refine lv_iload_n (pc := 140) C.1 C.2.1 dX9_fill_140 rfl (lv_at hl 2 rfl) ?_
                    refine lv_iconst (v := 1) (pc := 141) C.1 C.2.1 dX9_fill_141 (by decide) ?_
                    refine lv_isub (pc := 142) C.1 C.2.1 dX9_fill_142 ?_
                    have hw := hw (fun (v23 : Int32) (v24 : Int32) (z26 : St) => ∀ (H : Heap) (locs : List Loc) (ls : Array Slot), wd D t A s (wM t a z26) H locs → lv_has ls 13 [(0, .ref (a 0)), (1, .int b1), (2, .int b2), (4, .int v23), (5, .int v24)] → W p l e (rmd 3) s m args below meth c H locs 0 0 (QL D t A (wM t a) P below args s) (F0 m 145 ls [])) (by
                        intro v23 v24 z26 hw H locs ls h hl
                        refine lv_iload (pc := 145) C.1 C.2.1 dX9_fill_145 (lv_at hl 4 rfl) ?_
                        refine lv_if_lt (tgt := 401) (pc := 147) C.1 C.2.1 dX9_fill_147 (by decide) (fun c27 => ?_) (fun c27 => ?_)
                        · have hw := hw.1 c27
                          refine lv_aload_n (pc := 401) C.1 C.2.1 dX9_fill_401 rfl (lv_at hl 0 rfl) ?_
                          refine GM_X9_121_0 (pc := 402) C h dX9_fill_402 ?_
                          refine lv_aload_n (pc := 405) C.1 C.2.1 dX9_fill_405 rfl (lv_at hl 0 rfl) ?_
                          refine GM_X9_103_0 (pc := 406) C h dX9_fill_406 ?_
                          refine lv_iload_n (pc := 409) C.1 C.2.1 dX9_fill_409 rfl (lv_at hl 1 rfl) ?_
                          refine ldM_28 (pc := 410) C h hw.1 dX9_fill_410 ?_
                          have hw := hw.2
                          refine ldM_34 (pc := 411) C h hw.1 dX9_fill_411 ?_
                          have hw := hw.2
                          refine lv_if_ne (tgt := 425) (pc := 412) C.1 C.2.1 dX9_fill_412 (by decide) (fun c28 => ?_) (fun c28 => ?_)
                          · have hw := hw.1 c28
                            refine lv_aload_n (pc := 425) C.1 C.2.1 dX9_fill_425 rfl (lv_at hl 0 rfl) ?_
                            refine GM_X9_103_0 (pc := 426) C h dX9_fill_426 ?_
                            refine lv_iload_n (pc := 429) C.1 C.2.1 dX9_fill_429 rfl (lv_at hl 1 rfl) ?_
                            refine ldM_28 (pc := 430) C h hw.1 dX9_fill_430 ?_
                            have hw := hw.2
                            refine lv_topi (fun x29 ex29 => ?_)
                            have hw := hw x29 ex29
                            refine lv_istore (lv' := [(5, .int x29), (0, .ref (a 0)), (1, .int b1), (2, .int b2), (4, .int v23)]) (pc := 431) C.1 C.2.1 dX9_fill_431 hl (by decide) rfl (fun ls hl => ?_)
                            refine lv_iconst (v := 0) (pc := 433) C.1 C.2.1 dX9_fill_433 (by decide) ?_
                            have hw := hw (fun (v30 : Int32) (v31 : Int32) (z33 : St) => ∀ (H : Heap) (locs : List Loc) (ls : Array Slot), wd D t A s (wM t a z33) H locs → lv_has ls 13 [(0, .ref (a 0)), (1, .int b1), (2, .int b2), (5, .int v30), (6, .int v31)] → W p l e (rmd 3) s m args below meth c H locs 0 0 (QL D t A (wM t a) P below args s) (F0 m 436 ls [])) (by
                                intro v30 v31 z33 hw H locs ls h hl
                                refine lv_iload (pc := 436) C.1 C.2.1 dX9_fill_436 (lv_at hl 4 rfl) ?_
                                refine lv_iload_n (pc := 438) C.1 C.2.1 dX9_fill_438 rfl (lv_at hl 2 rfl) ?_
                                refine lv_icmp_ge (tgt := 662) (pc := 439) C.1 C.2.1 dX9_fill_439 (by decide) (fun c34 => ?_) (fun c34 => ?_)
                                · have hw := hw.1 c34
                                  refine lv_aload_n (pc := 662) C.1 C.2.1 dX9_fill_662 rfl (lv_at hl 0 rfl) ?_
                                  refine lv_iload_n (pc := 663) C.1 C.2.1 dX9_fill_663 rfl (lv_at hl 2 rfl) ?_
                                  refine PM_X9_323_0 (pc := 664) C h dX9_fill_664 (fun z35 ez35 H locs h => ?_)
                                  have hw := hw z35 ez35
                                  refine lv_aload_n (pc := 667) C.1 C.2.1 dX9_fill_667 rfl (lv_at hl 0 rfl) ?_
                                  refine lv_iconst (v := 0) (pc := 668) C.1 C.2.1 dX9_fill_668 (by decide) ?_
                                  refine PM_X9_134_0 (pc := 669) C h dX9_fill_669 (fun z36 ez36 H locs h => ?_)
                                  have hw := hw z36 ez36
                                  refine lv_aload_n (pc := 672) C.1 C.2.1 dX9_fill_672 rfl (lv_at hl 0 rfl) ?_
                                  refine GM_X9_118_0 (pc := 673) C h dX9_fill_673 ?_
                                  refine lv_aload_n (pc := 676) C.1 C.2.1 dX9_fill_676 rfl (lv_at hl 0 rfl) ?_
                                  refine GM_X9_103_0 (pc := 677) C h dX9_fill_677 ?_
                                  refine lv_iload_n (pc := 680) C.1 C.2.1 dX9_fill_680 rfl (lv_at hl 1 rfl) ?_
                                  refine ldM_28 (pc := 681) C h hw.1 dX9_fill_681 ?_
                                  have hw := hw.2
                                  refine ldM_33 (pc := 682) C h hw.1 dX9_fill_682 ?_
                                  have hw := hw.2
                                  exact rt_l (pc := 683) C hr hlk h hw dX9_fill_683
                                · have hw := hw.2 c34
                                  refine lv_aload_n (pc := 442) C.1 C.2.1 dX9_fill_442 rfl (lv_at hl 0 rfl) ?_
                                  refine lv_aload_n (pc := 443) C.1 C.2.1 dX9_fill_443 rfl (lv_at hl 0 rfl) ?_
                                  refine GM_X9_97_0 (pc := 444) C h dX9_fill_444 ?_
                                  refine lv_iload_n (pc := 447) C.1 C.2.1 dX9_fill_447 rfl (lv_at hl 1 rfl) ?_
                                  refine ldM_26 (pc := 448) C h hw.1 dX9_fill_448 ?_
                                  have hw := hw.2
                                  refine lv_aload_n (pc := 449) C.1 C.2.1 dX9_fill_449 rfl (lv_at hl 0 rfl) ?_
                                  refine GM_X9_173_0 (pc := 450) C h dX9_fill_450 ?_
                                  refine lv_iload (pc := 453) C.1 C.2.1 dX9_fill_453 (lv_at hl 4 rfl) ?_
                                  refine lv_iadd (pc := 455) C.1 C.2.1 dX9_fill_455 ?_
                                  refine lv_iconst (v := -1) (pc := 456) C.1 C.2.1 dX9_fill_456 (by decide) ?_
                                  refine cl_vi (pc := 457) (As := [.int (gF z33 26 b1.toNatClampNeg), .int ((gI z33 2) + v31), .int ((-1 : Int32))]) (rest := []) C h (m_X9_loadOf l D t a (gF z33 26 b1.toNatClampNeg) ((gI z33 2) + v31) ((-1 : Int32)) z33 _ hw) mw_X9_loadOf lm_X9_203 md_X9_loadOf rcM_0 ⟨by decide, by decide⟩ ⟨Nat.zero_le _, Nat.zero_le _⟩ hl.1 rfl (Nat.le_of_ble_eq_true rfl) dX9_fill_457 (fun r38 z37 H locs hw h => ?_)
                                  refine lv_istore (lv' := [(7, .int r38), (0, .ref (a 0)), (1, .int b1), (2, .int b2), (5, .int v30), (6, .int v31)]) (pc := 460) C.1 C.2.1 dX9_fill_460 hl (by decide) rfl (fun ls hl => ?_)
                                  refine lv_aload_n (pc := 462) C.1 C.2.1 dX9_fill_462 rfl (lv_at hl 1 rfl) ?_
                                  refine lv_aload_n (pc := 463) C.1 C.2.1 dX9_fill_463 rfl (lv_at hl 1 rfl) ?_
                                  refine GM_X9_173_0 (pc := 464) C h dX9_fill_464 ?_
                                  refine lv_iload (pc := 467) C.1 C.2.1 dX9_fill_467 (lv_at hl 5 rfl) ?_
                                  refine lv_iadd (pc := 469) C.1 C.2.1 dX9_fill_469 ?_
                                  refine lv_aload_n (pc := 470) C.1 C.2.1 dX9_fill_470 rfl (lv_at hl 1 rfl) ?_
                                  refine GM_X9_173_0 (pc := 471) C h dX9_fill_471 ?_
                                  refine cl_vi (pc := 474) (As := [.int ((gI z37 2) + v31), .int (gI z37 2)]) (rest := []) C h (m_X9_priceOf l D t a ((gI z37 2) + v31) (gI z37 2) z37 _ hw) mw_X9_priceOf lm_X9_176 md_X9_priceOf rcM_0 ⟨by decide, by decide⟩ ⟨Nat.zero_le _, Nat.zero_le _⟩ hl.1 rfl (Nat.le_of_ble_eq_true rfl) dX9_fill_474 (fun r40 z39 H locs hw h => ?_)
                                  refine lv_i2l (pc := 477) C.1 C.2.1 dX9_fill_477 rfl ?_
                                  refine lv_aload_n (pc := 478) C.1 C.2.1 dX9_fill_478 rfl (lv_at hl 1 rfl) ?_
                                  refine GM_X9_115_0 (pc := 479) C h dX9_fill_479 ?_
                                  refine lv_iload_n (pc := 482) C.1 C.2.1 dX9_fill_482 rfl (lv_at hl 2 rfl) ?_
                                  refine ldM_32 (pc := 483) C h hw.1 dX9_fill_483 ?_
                                  have hw := hw.2
                                  refine lv_i2l (pc := 484) C.1 C.2.1 dX9_fill_484 rfl ?_
                                  refine lv_lmul (pc := 485) C.1 C.2.1 dX9_fill_485 ?_
                                  refine lv_topl (fun x41 ex41 => ?_)
                                  have hw := hw x41 ex41
                                  refine lv_lstore (lv' := [(8, .long x41), (7, .int r38), (0, .ref (a 0)), (1, .int b1), (2, .int b2), (5, .int v30), (6, .int v31)]) (pc := 486) C.1 C.2.1 dX9_fill_486 hl (by decide) rfl (fun ls hl => ?_)
                                  refine lv_aload_n (pc := 488) C.1 C.2.1 dX9_fill_488 rfl (lv_at hl 2 rfl) ?_
                                  refine GM_X9_109_0 (pc := 489) C h dX9_fill_489 ?_
                                  refine lv_iload_n (pc := 492) C.1 C.2.1 dX9_fill_492 rfl (lv_at hl 3 rfl) ?_
                                  refine ldM_30 (pc := 493) C h hw.1 dX9_fill_493 ?_
                                  have hw := hw.2
                                  refine lv_ineg (pc := 494) C.1 C.2.1 dX9_fill_494 ?_
                                  refine lv_topi (fun x42 ex42 => ?_)
                                  have hw := hw x42 ex42
                                  refine lv_istore (lv' := [(10, .int x42), (8, .long x41), (7, .int r38), (0, .ref (a 0)), (1, .int b1), (2, .int b2), (5, .int v30), (6, .int v31)]) (pc := 495) C.1 C.2.1 dX9_fill_495 hl (by decide) rfl (fun ls hl => ?_)
                                  refine lv_iconst (v := 0) (pc := 497) C.1 C.2.1 dX9_fill_497 (by decide) ?_
                                  have hw := hw (fun (v43 : Int32) (v44 : Int32) (v45 : Int32) (v46 : Int64) (v47 : Int32) (v48 : Int32) (z50 : St) => ∀ (H : Heap) (locs : List Loc) (ls : Array Slot), wd D t A s (wM t a z50) H locs → lv_has ls 13 [(0, .ref (a 0)), (1, .int b1), (2, .int b2), (5, .int v43), (6, .int v44), (7, .int v45), (8, .long v46), (10, .int v47), (11, .int v48)] → W p l e (rmd 3) s m args below meth c H locs 0 0 (QL D t A (wM t a) P below args s) (F0 m 500 ls [])) (by
                                      intro v43 v44 v45 v46 v47 v48 z50 hw H locs ls h hl
                                      refine lv_iload (pc := 500) C.1 C.2.1 dX9_fill_500 (lv_at hl 8 rfl) ?_
                                      refine lv_if_ne (tgt := 626) (pc := 502) C.1 C.2.1 dX9_fill_502 (by decide) (fun c51 => ?_) (fun c51 => ?_)
                                      · have hw := hw.1 c51
                                        refine lv_aload_n (pc := 626) C.1 C.2.1 dX9_fill_626 rfl (lv_at hl 0 rfl) ?_
                                        refine GM_X9_125_0 (pc := 627) C h dX9_fill_627 ?_
                                        refine lv_iload (pc := 630) C.1 C.2.1 dX9_fill_630 (lv_at hl 4 rfl) ?_
                                        refine lv_iload (pc := 632) C.1 C.2.1 dX9_fill_632 (lv_at hl 7 rfl) ?_
                                        refine stM_35 (pc := 634) C h hw.1 dX9_fill_634 (fun z52 ez52 H locs h => ?_)
                                        have hw := hw.2 z52 ez52
                                        refine lv_aload_n (pc := 635) C.1 C.2.1 dX9_fill_635 rfl (lv_at hl 0 rfl) ?_
                                        refine lv_iload_n (pc := 636) C.1 C.2.1 dX9_fill_636 rfl (lv_at hl 1 rfl) ?_
                                        refine lv_iload (pc := 637) C.1 C.2.1 dX9_fill_637 (lv_at hl 3 rfl) ?_
                                        refine lv_iload (pc := 639) C.1 C.2.1 dX9_fill_639 (lv_at hl 7 rfl) ?_
                                        refine lv_iadd (pc := 641) C.1 C.2.1 dX9_fill_641 ?_
                                        refine cl_vi (pc := 642) (As := [.int b1, .int (v43 + v47)]) (rest := []) C h (m_X9_afterwards l D t a b1 (v43 + v47) z52 _ hw) mw_X9_afterwards lm_X9_320 md_X9_afterwards rcM_0 ⟨by decide, by decide⟩ ⟨Nat.zero_le _, Nat.zero_le _⟩ hl.1 rfl (Nat.le_of_ble_eq_true rfl) dX9_fill_642 (fun r54 z53 H locs hw h => ?_)
                                        refine lv_istore (lv' := [(5, .int r54), (0, .ref (a 0)), (1, .int b1), (2, .int b2), (6, .int v44), (7, .int v45), (8, .long v46), (10, .int v47), (11, .int v48)]) (pc := 645) C.1 C.2.1 dX9_fill_645 hl (by decide) rfl (fun ls hl => ?_)
                                        refine lv_aload_n (pc := 647) C.1 C.2.1 dX9_fill_647 rfl (lv_at hl 1 rfl) ?_
                                        refine GM_X9_128_0 (pc := 648) C h dX9_fill_648 ?_
                                        refine lv_iload (pc := 651) C.1 C.2.1 dX9_fill_651 (lv_at hl 4 rfl) ?_
                                        refine lv_iload (pc := 653) C.1 C.2.1 dX9_fill_653 (lv_at hl 0 rfl) ?_
                                        refine stM_36 (pc := 655) C h hw.1 dX9_fill_655 (fun z55 ez55 H locs h => ?_)
                                        have hw := hw.2 z55 ez55
                                        obtain ⟨x56, ex56⟩ : ∃ y : Int32, y = v44 + (1) := ⟨_, rfl⟩
                                        have hw := hw x56 ex56
                                        refine lv_iinc (v := x56) (lv' := [(6, .int x56), (5, .int r54), (0, .ref (a 0)), (1, .int b1), (2, .int b2), (7, .int v45), (8, .long v46), (10, .int v47), (11, .int v48)]) (pc := 656) C.1 C.2.1 dX9_fill_656 hl (k := 4) rfl (by rw [ex56]; rfl) (by decide) rfl (fun ls hl => ?_)
                                        refine lv_goto (tgt := 436) (pc := 659) C.1 C.2.1 dX9_fill_659 (by decide) ?_
                                        exact hw _ _ _ h (lv_sub hl [2, 3, 4, 1, 0] rfl)
                                      · have hw := hw.2 c51
                                        refine lv_aload_n (pc := 505) C.1 C.2.1 dX9_fill_505 rfl (lv_at hl 0 rfl) ?_
                                        refine lv_iload_n (pc := 506) C.1 C.2.1 dX9_fill_506 rfl (lv_at hl 1 rfl) ?_
                                        refine lv_iload (pc := 507) C.1 C.2.1 dX9_fill_507 (lv_at hl 3 rfl) ?_
                                        refine lv_iload (pc := 509) C.1 C.2.1 dX9_fill_509 (lv_at hl 7 rfl) ?_
                                        refine lv_aload_n (pc := 511) C.1 C.2.1 dX9_fill_511 rfl (lv_at hl 0 rfl) ?_
                                        refine GM_X9_173_0 (pc := 512) C h dX9_fill_512 ?_
                                        refine lv_iload (pc := 515) C.1 C.2.1 dX9_fill_515 (lv_at hl 4 rfl) ?_
                                        refine lv_iadd (pc := 517) C.1 C.2.1 dX9_fill_517 ?_
                                        refine lv_iload (pc := 518) C.1 C.2.1 dX9_fill_518 (lv_at hl 5 rfl) ?_
                                        refine cl_vi (pc := 520) (As := [.int b1, .int v43, .int v47, .int ((gI z50 2) + v44), .int v45]) (rest := []) C h (m_X9_goes l D t a b1 v43 v47 ((gI z50 2) + v44) v45 z50 _ hw) mw_X9_goes lm_X9_316 md_X9_goes rcM_0 ⟨by decide, by decide⟩ ⟨Nat.zero_le _, Nat.zero_le _⟩ hl.1 rfl (Nat.le_of_ble_eq_true rfl) dX9_fill_520 (fun r58 z57 H locs hw h => ?_)
                                        refine lv_istore (lv' := [(11, .int r58), (0, .ref (a 0)), (1, .int b1), (2, .int b2), (5, .int v43), (6, .int v44), (7, .int v45), (8, .long v46), (10, .int v47)]) (pc := 523) C.1 C.2.1 dX9_fill_523 hl (by decide) rfl (fun ls hl => ?_)
                                        refine lv_iload (pc := 525) C.1 C.2.1 dX9_fill_525 (lv_at hl 0 rfl) ?_
                                        have hw := hw (fun (v59 : Int32) (v60 : Int32) (v61 : Int32) (v62 : Int64) (v63 : Int32) (v64 : Int32) (s65 : Int32) (z67 : St) => ∀ (H : Heap) (locs : List Loc) (ls : Array Slot), wd D t A s (wM t a z67) H locs → lv_has ls 13 [(0, .ref (a 0)), (1, .int b1), (2, .int b2), (5, .int v59), (6, .int v60), (7, .int v61), (8, .long v62), (10, .int v63), (11, .int v64)] → W p l e (rmd 3) s m args below meth c H locs 0 0 (QL D t A (wM t a) P below args s) (F0 m 553 ls [.int s65])) (by
                                            intro v59 v60 v61 v62 v63 v64 s65 z67 hw H locs ls h hl
                                            refine lv_istore (lv' := [(12, .int s65), (0, .ref (a 0)), (1, .int b1), (2, .int b2), (5, .int v59), (6, .int v60), (7, .int v61), (8, .long v62), (10, .int v63), (11, .int v64)]) (pc := 553) C.1 C.2.1 dX9_fill_553 hl (by decide) rfl (fun ls hl => ?_)
                                            refine lv_iload (pc := 555) C.1 C.2.1 dX9_fill_555 (lv_at hl 9 rfl) ?_
                                            have hw := hw (fun (v68 : Int32) (v69 : Int32) (v70 : Int32) (v71 : Int64) (v72 : Int32) (s73 : Int32) (z75 : St) => ∀ (H : Heap) (locs : List Loc) (ls : Array Slot), wd D t A s (wM t a z75) H locs → lv_has ls 13 [(0, .ref (a 0)), (1, .int b1), (2, .int b2), (5, .int v68), (6, .int v69), (7, .int v70), (8, .long v71), (10, .int v72)] → W p l e (rmd 3) s m args below meth c H locs 0 0 (QL D t A (wM t a) P below args s) (F0 m 606 ls [.int s73])) (by
                                                intro v68 v69 v70 v71 v72 s73 z75 hw H locs ls h hl
                                                refine lv_istore (lv' := [(11, .int s73), (0, .ref (a 0)), (1, .int b1), (2, .int b2), (5, .int v68), (6, .int v69), (7, .int v70), (8, .long v71), (10, .int v72)]) (pc := 606) C.1 C.2.1 dX9_fill_606 hl (by decide) rfl (fun ls hl => ?_)
                                                refine lv_iload (pc := 608) C.1 C.2.1 dX9_fill_608 (lv_at hl 8 rfl) ?_
                                                refine lv_iload (pc := 610) C.1 C.2.1 dX9_fill_610 (lv_at hl 0 rfl) ?_
                                                have hw := hw (fun (v76 : Int32) (v77 : Int32) (v78 : Int32) (v79 : Int64) (v80 : Int32) (s81 : Int32) (s82 : Int32) (z84 : St) => ∀ (H : Heap) (locs : List Loc) (ls : Array Slot), wd D t A s (wM t a z84) H locs → lv_has ls 13 [(0, .ref (a 0)), (1, .int b1), (2, .int b2), (5, .int v76), (6, .int v77), (7, .int v78), (8, .long v79), (11, .int v80)] → W p l e (rmd 3) s m args below meth c H locs 0 0 (QL D t A (wM t a) P below args s) (F0 m 620 ls [.int s81, .int s82])) (by
                                                    intro v76 v77 v78 v79 v80 s81 s82 z84 hw H locs ls h hl
                                                    refine lv_iadd (pc := 620) C.1 C.2.1 dX9_fill_620 ?_
                                                    refine lv_topi (fun x85 ex85 => ?_)
                                                    have hw := hw x85 ex85
                                                    refine lv_istore (lv' := [(10, .int x85), (0, .ref (a 0)), (1, .int b1), (2, .int b2), (5, .int v76), (6, .int v77), (7, .int v78), (8, .long v79), (11, .int v80)]) (pc := 621) C.1 C.2.1 dX9_fill_621 hl (by decide) rfl (fun ls hl => ?_)
                                                    refine lv_goto (tgt := 500) (pc := 623) C.1 C.2.1 dX9_fill_623 (by decide) ?_
                                                    exact hw _ _ _ h (lv_sub hl [1, 2, 3, 4, 5, 6, 7, 0, 8] rfl))
                                                refine lv_if_eq (tgt := 619) (pc := 612) C.1 C.2.1 dX9_fill_612 (by decide) (fun c86 => ?_) (fun c86 => ?_)
                                                · have hw := hw.1 c86
                                                  refine lv_iconst (v := 1) (pc := 619) C.1 C.2.1 dX9_fill_619 (by decide) ?_
                                                  exact hw _ _ _ h (lv_sub hl [1, 2, 3, 4, 5, 6, 7, 0] rfl)
                                                · have hw := hw.2 c86
                                                  refine lv_iconst (v := 0) (pc := 615) C.1 C.2.1 dX9_fill_615 (by decide) ?_
                                                  refine lv_goto (tgt := 620) (pc := 616) C.1 C.2.1 dX9_fill_616 (by decide) ?_
                                                  exact hw _ _ _ h (lv_sub hl [1, 2, 3, 4, 5, 6, 7, 0] rfl))
                                            have hw := hw (fun (v87 : Int32) (v88 : Int32) (v89 : Int32) (v90 : Int64) (v91 : Int32) (z93 : St) => ∀ (H : Heap) (locs : List Loc) (ls : Array Slot), wd D t A s (wM t a z93) H locs → lv_has ls 13 [(0, .ref (a 0)), (1, .int b1), (2, .int b2), (5, .int v87), (6, .int v88), (7, .int v89), (8, .long v90), (10, .int v91)] → W p l e (rmd 3) s m args below meth c H locs 0 0 (QL D t A (wM t a) P below args s) (F0 m 605 ls [])) (by
                                                intro v87 v88 v89 v90 v91 z93 hw H locs ls h hl
                                                refine lv_iconst (v := 0) (pc := 605) C.1 C.2.1 dX9_fill_605 (by decide) ?_
                                                exact hw _ _ _ h (lv_sub hl [0, 1, 2, 3, 4, 5, 6, 7] rfl))
                                            refine lv_if_eq (tgt := 605) (pc := 557) C.1 C.2.1 dX9_fill_557 (by decide) (fun c94 => ?_) (fun c94 => ?_)
                                            · have hw := hw.1 c94
                                              exact hw _ _ _ h (lv_sub hl [1, 2, 3, 4, 5, 6, 7, 8] rfl)
                                            · have hw := hw.2 c94
                                              refine lv_aload_n (pc := 560) C.1 C.2.1 dX9_fill_560 rfl (lv_at hl 1 rfl) ?_
                                              refine GM_X9_121_0 (pc := 561) C h dX9_fill_561 ?_
                                              refine lv_iload (pc := 564) C.1 C.2.1 dX9_fill_564 (lv_at hl 0 rfl) ?_
                                              refine ldM_34 (pc := 566) C h hw.1 dX9_fill_566 ?_
                                              have hw := hw.2
                                              refine lv_if_eq (tgt := 605) (pc := 567) C.1 C.2.1 dX9_fill_567 (by decide) (fun c95 => ?_) (fun c95 => ?_)
                                              · have hw := hw.1 c95
                                                exact hw _ _ _ h (lv_sub hl [1, 2, 3, 4, 5, 6, 7, 8] rfl)
                                              · have hw := hw.2 c95
                                                refine lv_aload_n (pc := 570) C.1 C.2.1 dX9_fill_570 rfl (lv_at hl 1 rfl) ?_
                                                refine GM_X9_118_0 (pc := 571) C h dX9_fill_571 ?_
                                                refine lv_iload (pc := 574) C.1 C.2.1 dX9_fill_574 (lv_at hl 0 rfl) ?_
                                                refine ldM_33 (pc := 576) C h hw.1 dX9_fill_576 ?_
                                                have hw := hw.2
                                                refine lv_iload (pc := 577) C.1 C.2.1 dX9_fill_577 (lv_at hl 8 rfl) ?_
                                                refine lv_i2l (pc := 579) C.1 C.2.1 dX9_fill_579 rfl ?_
                                                refine lv_lload (pc := 580) C.1 C.2.1 dX9_fill_580 (lv_at hl 7 rfl) ?_
                                                refine lv_lmul (pc := 582) C.1 C.2.1 dX9_fill_582 ?_
                                                refine lv_ladd (pc := 583) C.1 C.2.1 dX9_fill_583 ?_
                                                refine lv_aload_n (pc := 584) C.1 C.2.1 dX9_fill_584 rfl (lv_at hl 1 rfl) ?_
                                                refine GM_X9_118_0 (pc := 585) C h dX9_fill_585 ?_
                                                refine lv_bipush (v := 41) (pc := 588) C.1 C.2.1 dX9_fill_588 (by decide) ?_
                                                refine lv_iload (pc := 590) C.1 C.2.1 dX9_fill_590 (lv_at hl 5 rfl) ?_
                                                refine lv_imul (pc := 592) C.1 C.2.1 dX9_fill_592 ?_
                                                refine lv_iload (pc := 593) C.1 C.2.1 dX9_fill_593 (lv_at hl 4 rfl) ?_
                                                refine lv_iadd (pc := 595) C.1 C.2.1 dX9_fill_595 ?_
                                                refine ldM_33 (pc := 596) C h hw.1 dX9_fill_596 ?_
                                                have hw := hw.2
                                                refine W.lcmp (pc := 597) C.1 C.2.1 dX9_fill_597 ?_
                                                refine lv_if_ne (tgt := 605) (pc := 598) C.1 C.2.1 dX9_fill_598 (by decide) (fun c96 => ?_) (fun c96 => ?_)
                                                · have hw := hw.1 c96
                                                  exact hw _ _ _ h (lv_sub hl [1, 2, 3, 4, 5, 6, 7, 8] rfl)
                                                · have hw := hw.2 c96
                                                  refine lv_iconst (v := 1) (pc := 601) C.1 C.2.1 dX9_fill_601 (by decide) ?_
                                                  refine lv_goto (tgt := 606) (pc := 602) C.1 C.2.1 dX9_fill_602 (by decide) ?_
                                                  exact hw _ _ _ h (lv_sub hl [1, 2, 3, 4, 5, 6, 7, 8] rfl))
                                        refine lv_if_eq (tgt := 552) (pc := 527) C.1 C.2.1 dX9_fill_527 (by decide) (fun c97 => ?_) (fun c97 => ?_)
                                        · have hw := hw.1 c97
                                          refine lv_iconst (v := 0) (pc := 552) C.1 C.2.1 dX9_fill_552 (by decide) ?_
                                          exact hw _ _ _ h (lv_sub hl [1, 2, 3, 4, 5, 6, 7, 8, 0] rfl)
                                        · have hw := hw.2 c97
                                          refine lv_bipush (v := 41) (pc := 530) C.1 C.2.1 dX9_fill_530 (by decide) ?_
                                          refine lv_iload (pc := 532) C.1 C.2.1 dX9_fill_532 (lv_at hl 5 rfl) ?_
                                          refine lv_imul (pc := 534) C.1 C.2.1 dX9_fill_534 ?_
                                          refine lv_bipush (v := 41) (pc := 535) C.1 C.2.1 dX9_fill_535 (by decide) ?_
                                          refine lv_iadd (pc := 537) C.1 C.2.1 dX9_fill_537 ?_
                                          refine lv_aload_n (pc := 538) C.1 C.2.1 dX9_fill_538 rfl (lv_at hl 1 rfl) ?_
                                          refine lv_iload_n (pc := 539) C.1 C.2.1 dX9_fill_539 rfl (lv_at hl 2 rfl) ?_
                                          refine lv_iload (pc := 540) C.1 C.2.1 dX9_fill_540 (lv_at hl 4 rfl) ?_
                                          refine lv_iload (pc := 542) C.1 C.2.1 dX9_fill_542 (lv_at hl 8 rfl) ?_
                                          refine lv_iadd (pc := 544) C.1 C.2.1 dX9_fill_544 ?_
                                          refine cl_vi (pc := 545) (As := [.int b1, .int (v43 + v47)]) (rest := [.int ((((41 : Int32)) * v44) + ((41 : Int32)))]) C h (m_X9_afterwards l D t a b1 (v43 + v47) z57 _ hw) mw_X9_afterwards lm_X9_320 md_X9_afterwards rcM_0 ⟨by decide, by decide⟩ ⟨Nat.zero_le _, Nat.zero_le _⟩ hl.1 rfl (Nat.le_of_ble_eq_true rfl) dX9_fill_545 (fun r99 z98 H locs hw h => ?_)
                                          refine lv_iadd (pc := 548) C.1 C.2.1 dX9_fill_548 ?_
                                          refine lv_goto (tgt := 553) (pc := 549) C.1 C.2.1 dX9_fill_549 (by decide) ?_
                                          exact hw _ _ _ h (lv_sub hl [1, 2, 3, 4, 5, 6, 7, 8, 0] rfl))
                                  refine lv_istore (lv' := [(11, .int ((0 : Int32))), (10, .int x42), (8, .long x41), (7, .int r38), (0, .ref (a 0)), (1, .int b1), (2, .int b2), (5, .int v30), (6, .int v31)]) (pc := 498) C.1 C.2.1 dX9_fill_498 hl (by decide) rfl (fun ls hl => ?_)
                                  exact hw _ _ _ h (lv_sub hl [4, 5, 6, 7, 8, 3, 2, 1, 0] rfl))
                            refine lv_istore (lv' := [(6, .int ((0 : Int32))), (5, .int x29), (0, .ref (a 0)), (1, .int b1), (2, .int b2), (4, .int v23)]) (pc := 434) C.1 C.2.1 dX9_fill_434 hl (by decide) rfl (fun ls hl => ?_)
                            exact hw _ _ _ h (lv_sub hl [2, 3, 4, 1, 0] rfl)
                          · have hw := hw.2 c28
                            refine lv_aload_n (pc := 415) C.1 C.2.1 dX9_fill_415 rfl (lv_at hl 0 rfl) ?_
                            refine lv_bipush (v := -6) (pc := 416) C.1 C.2.1 dX9_fill_416 (by decide) ?_
                            refine PM_X9_134_0 (pc := 418) C h dX9_fill_418 (fun z100 ez100 H locs h => ?_)
                            have hw := hw z100 ez100
                            refine lv_ldc2 (pc := 421) C.1 C.2.1 C.2.2.2.1 (C.2.2.2.2 _ lc_X9_231) dX9_fill_421 ?_
                            exact rt_l (pc := 424) C hr hlk h hw dX9_fill_424
                        · have hw := hw.2 c27
                          refine lv_aload_n (pc := 150) C.1 C.2.1 dX9_fill_150 rfl (lv_at hl 0 rfl) ?_
                          refine lv_aload_n (pc := 151) C.1 C.2.1 dX9_fill_151 rfl (lv_at hl 0 rfl) ?_
                          refine GM_X9_97_0 (pc := 152) C h dX9_fill_152 ?_
                          refine lv_iload_n (pc := 155) C.1 C.2.1 dX9_fill_155 rfl (lv_at hl 1 rfl) ?_
                          refine ldM_26 (pc := 156) C h hw.1 dX9_fill_156 ?_
                          have hw := hw.2
                          refine lv_aload_n (pc := 157) C.1 C.2.1 dX9_fill_157 rfl (lv_at hl 0 rfl) ?_
                          refine GM_X9_173_0 (pc := 158) C h dX9_fill_158 ?_
                          refine lv_iload (pc := 161) C.1 C.2.1 dX9_fill_161 (lv_at hl 4 rfl) ?_
                          refine lv_iadd (pc := 163) C.1 C.2.1 dX9_fill_163 ?_
                          refine lv_iconst (v := -1) (pc := 164) C.1 C.2.1 dX9_fill_164 (by decide) ?_
                          refine cl_vi (pc := 165) (As := [.int (gF z26 26 b1.toNatClampNeg), .int ((gI z26 2) + v24), .int ((-1 : Int32))]) (rest := []) C h (m_X9_loadOf l D t a (gF z26 26 b1.toNatClampNeg) ((gI z26 2) + v24) ((-1 : Int32)) z26 _ hw) mw_X9_loadOf lm_X9_203 md_X9_loadOf rcM_0 ⟨by decide, by decide⟩ ⟨Nat.zero_le _, Nat.zero_le _⟩ hl.1 rfl (Nat.le_of_ble_eq_true rfl) dX9_fill_165 (fun r102 z101 H locs hw h => ?_)
                          refine lv_istore (lv' := [(6, .int r102), (0, .ref (a 0)), (1, .int b1), (2, .int b2), (4, .int v23), (5, .int v24)]) (pc := 168) C.1 C.2.1 dX9_fill_168 hl (by decide) rfl (fun ls hl => ?_)
                          refine lv_aload_n (pc := 170) C.1 C.2.1 dX9_fill_170 rfl (lv_at hl 1 rfl) ?_
                          refine lv_aload_n (pc := 171) C.1 C.2.1 dX9_fill_171 rfl (lv_at hl 1 rfl) ?_
                          refine GM_X9_173_0 (pc := 172) C h dX9_fill_172 ?_
                          refine lv_iload (pc := 175) C.1 C.2.1 dX9_fill_175 (lv_at hl 5 rfl) ?_
                          refine lv_iadd (pc := 177) C.1 C.2.1 dX9_fill_177 ?_
                          refine lv_aload_n (pc := 178) C.1 C.2.1 dX9_fill_178 rfl (lv_at hl 1 rfl) ?_
                          refine GM_X9_173_0 (pc := 179) C h dX9_fill_179 ?_
                          refine cl_vi (pc := 182) (As := [.int ((gI z101 2) + v24), .int (gI z101 2)]) (rest := []) C h (m_X9_priceOf l D t a ((gI z101 2) + v24) (gI z101 2) z101 _ hw) mw_X9_priceOf lm_X9_176 md_X9_priceOf rcM_0 ⟨by decide, by decide⟩ ⟨Nat.zero_le _, Nat.zero_le _⟩ hl.1 rfl (Nat.le_of_ble_eq_true rfl) dX9_fill_182 (fun r104 z103 H locs hw h => ?_)
                          refine lv_i2l (pc := 185) C.1 C.2.1 dX9_fill_185 rfl ?_
                          refine lv_aload_n (pc := 186) C.1 C.2.1 dX9_fill_186 rfl (lv_at hl 1 rfl) ?_
                          refine GM_X9_115_0 (pc := 187) C h dX9_fill_187 ?_
                          refine lv_iload_n (pc := 190) C.1 C.2.1 dX9_fill_190 rfl (lv_at hl 2 rfl) ?_
                          refine ldM_32 (pc := 191) C h hw.1 dX9_fill_191 ?_
                          have hw := hw.2
                          refine lv_i2l (pc := 192) C.1 C.2.1 dX9_fill_192 rfl ?_
                          refine lv_lmul (pc := 193) C.1 C.2.1 dX9_fill_193 ?_
                          refine lv_topl (fun x105 ex105 => ?_)
                          have hw := hw x105 ex105
                          refine lv_lstore (lv' := [(7, .long x105), (6, .int r102), (0, .ref (a 0)), (1, .int b1), (2, .int b2), (4, .int v23), (5, .int v24)]) (pc := 194) C.1 C.2.1 dX9_fill_194 hl (by decide) rfl (fun ls hl => ?_)
                          refine lv_iconst (v := 0) (pc := 196) C.1 C.2.1 dX9_fill_196 (by decide) ?_
                          have hw := hw (fun (v106 : Int32) (v107 : Int32) (v108 : Int32) (v109 : Int64) (v110 : Int32) (z112 : St) => ∀ (H : Heap) (locs : List Loc) (ls : Array Slot), wd D t A s (wM t a z112) H locs → lv_has ls 13 [(0, .ref (a 0)), (1, .int b1), (2, .int b2), (4, .int v106), (5, .int v107), (6, .int v108), (7, .long v109), (9, .int v110)] → W p l e (rmd 3) s m args below meth c H locs 0 0 (QL D t A (wM t a) P below args s) (F0 m 199 ls [])) (by
                              intro v106 v107 v108 v109 v110 z112 hw H locs ls h hl
                              refine lv_iload (pc := 199) C.1 C.2.1 dX9_fill_199 (lv_at hl 7 rfl) ?_
                              refine lv_iload (pc := 201) C.1 C.2.1 dX9_fill_201 (lv_at hl 3 rfl) ?_
                              refine lv_icmp_ge (tgt := 395) (pc := 203) C.1 C.2.1 dX9_fill_203 (by decide) (fun c113 => ?_) (fun c113 => ?_)
                              · have hw := hw.1 c113
                                obtain ⟨x114, ex114⟩ : ∃ y : Int32, y = v107 + (-1) := ⟨_, rfl⟩
                                have hw := hw x114 ex114
                                refine lv_iinc (v := x114) (lv' := [(5, .int x114), (0, .ref (a 0)), (1, .int b1), (2, .int b2), (4, .int v106), (6, .int v108), (7, .long v109), (9, .int v110)]) (pc := 395) C.1 C.2.1 dX9_fill_395 hl (k := 4) rfl (by rw [ex114]; rfl) (by decide) rfl (fun ls hl => ?_)
                                refine lv_goto (tgt := 145) (pc := 398) C.1 C.2.1 dX9_fill_398 (by decide) ?_
                                exact hw _ _ _ h (lv_sub hl [1, 2, 3, 4, 0] rfl)
                              · have hw := hw.2 c113
                                refine lv_aload_n (pc := 206) C.1 C.2.1 dX9_fill_206 rfl (lv_at hl 0 rfl) ?_
                                refine GM_X9_121_0 (pc := 207) C h dX9_fill_207 ?_
                                refine lv_bipush (v := 41) (pc := 210) C.1 C.2.1 dX9_fill_210 (by decide) ?_
                                refine lv_iload (pc := 212) C.1 C.2.1 dX9_fill_212 (lv_at hl 4 rfl) ?_
                                refine lv_imul (pc := 214) C.1 C.2.1 dX9_fill_214 ?_
                                refine lv_iload (pc := 215) C.1 C.2.1 dX9_fill_215 (lv_at hl 7 rfl) ?_
                                refine lv_iadd (pc := 217) C.1 C.2.1 dX9_fill_217 ?_
                                refine lv_iconst (v := 0) (pc := 218) C.1 C.2.1 dX9_fill_218 (by decide) ?_
                                refine stM_34 (pc := 219) C h hw.1 dX9_fill_219 (fun z115 ez115 H locs h => ?_)
                                have hw := hw.2 z115 ez115
                                refine lv_aload_n (pc := 220) C.1 C.2.1 dX9_fill_220 rfl (lv_at hl 0 rfl) ?_
                                refine GM_X9_109_0 (pc := 221) C h dX9_fill_221 ?_
                                refine lv_iload_n (pc := 224) C.1 C.2.1 dX9_fill_224 rfl (lv_at hl 1 rfl) ?_
                                refine ldM_30 (pc := 225) C h hw.1 dX9_fill_225 ?_
                                have hw := hw.2
                                refine lv_ineg (pc := 226) C.1 C.2.1 dX9_fill_226 ?_
                                have hw := hw (fun (v116 : Int32) (v117 : Int32) (v118 : Int32) (v119 : Int64) (v120 : Int32) (v121 : Int32) (z123 : St) => ∀ (H : Heap) (locs : List Loc) (ls : Array Slot), wd D t A s (wM t a z123) H locs → lv_has ls 13 [(0, .ref (a 0)), (1, .int b1), (2, .int b2), (4, .int v116), (5, .int v117), (6, .int v118), (7, .long v119), (9, .int v120), (10, .int v121)] → W p l e (rmd 3) s m args below meth c H locs 0 0 (QL D t A (wM t a) P below args s) (F0 m 229 ls [])) (by
                                    intro v116 v117 v118 v119 v120 v121 z123 hw H locs ls h hl
                                    refine lv_iload (pc := 229) C.1 C.2.1 dX9_fill_229 (lv_at hl 8 rfl) ?_
                                    refine lv_aload_n (pc := 231) C.1 C.2.1 dX9_fill_231 rfl (lv_at hl 0 rfl) ?_
                                    refine GM_X9_106_0 (pc := 232) C h dX9_fill_232 ?_
                                    refine lv_iload_n (pc := 235) C.1 C.2.1 dX9_fill_235 rfl (lv_at hl 1 rfl) ?_
                                    refine ldM_29 (pc := 236) C h hw.1 dX9_fill_236 ?_
                                    have hw := hw.2
                                    refine lv_icmp_gt (tgt := 389) (pc := 237) C.1 C.2.1 dX9_fill_237 (by decide) (fun c124 => ?_) (fun c124 => ?_)
                                    · have hw := hw.1 c124
                                      obtain ⟨x125, ex125⟩ : ∃ y : Int32, y = v120 + (1) := ⟨_, rfl⟩
                                      have hw := hw x125 ex125
                                      refine lv_iinc (v := x125) (lv' := [(9, .int x125), (0, .ref (a 0)), (1, .int b1), (2, .int b2), (4, .int v116), (5, .int v117), (6, .int v118), (7, .long v119), (10, .int v121)]) (pc := 389) C.1 C.2.1 dX9_fill_389 hl (k := 7) rfl (by rw [ex125]; rfl) (by decide) rfl (fun ls hl => ?_)
                                      refine lv_goto (tgt := 199) (pc := 392) C.1 C.2.1 dX9_fill_392 (by decide) ?_
                                      exact hw _ _ _ h (lv_sub hl [1, 2, 3, 4, 5, 6, 7, 0] rfl)
                                    · have hw := hw.2 c124
                                      refine lv_aload_n (pc := 240) C.1 C.2.1 dX9_fill_240 rfl (lv_at hl 0 rfl) ?_
                                      refine lv_iload_n (pc := 241) C.1 C.2.1 dX9_fill_241 rfl (lv_at hl 1 rfl) ?_
                                      refine lv_iload (pc := 242) C.1 C.2.1 dX9_fill_242 (lv_at hl 7 rfl) ?_
                                      refine lv_iload (pc := 244) C.1 C.2.1 dX9_fill_244 (lv_at hl 8 rfl) ?_
                                      refine lv_aload_n (pc := 246) C.1 C.2.1 dX9_fill_246 rfl (lv_at hl 0 rfl) ?_
                                      refine GM_X9_173_0 (pc := 247) C h dX9_fill_247 ?_
                                      refine lv_iload (pc := 250) C.1 C.2.1 dX9_fill_250 (lv_at hl 4 rfl) ?_
                                      refine lv_iadd (pc := 252) C.1 C.2.1 dX9_fill_252 ?_
                                      refine lv_iload (pc := 253) C.1 C.2.1 dX9_fill_253 (lv_at hl 5 rfl) ?_
                                      refine cl_vi (pc := 255) (As := [.int b1, .int v120, .int v121, .int ((gI z123 2) + v117), .int v118]) (rest := []) C h (m_X9_goes l D t a b1 v120 v121 ((gI z123 2) + v117) v118 z123 _ hw) mw_X9_goes lm_X9_316 md_X9_goes rcM_0 ⟨by decide, by decide⟩ ⟨Nat.zero_le _, Nat.zero_le _⟩ hl.1 rfl (Nat.le_of_ble_eq_true rfl) dX9_fill_255 (fun r127 z126 H locs hw h => ?_)
                                      have hw := hw (fun (v128 : Int32) (v129 : Int32) (v130 : Int32) (v131 : Int64) (v132 : Int32) (v133 : Int32) (z135 : St) => ∀ (H : Heap) (locs : List Loc) (ls : Array Slot), wd D t A s (wM t a z135) H locs → lv_has ls 13 [(0, .ref (a 0)), (1, .int b1), (2, .int b2), (4, .int v128), (5, .int v129), (6, .int v130), (7, .long v131), (9, .int v132), (10, .int v133)] → W p l e (rmd 3) s m args below meth c H locs 0 0 (QL D t A (wM t a) P below args s) (F0 m 383 ls [])) (by
                                          intro v128 v129 v130 v131 v132 v133 z135 hw H locs ls h hl
                                          obtain ⟨x136, ex136⟩ : ∃ y : Int32, y = v133 + (1) := ⟨_, rfl⟩
                                          have hw := hw x136 ex136
                                          refine lv_iinc (v := x136) (lv' := [(10, .int x136), (0, .ref (a 0)), (1, .int b1), (2, .int b2), (4, .int v128), (5, .int v129), (6, .int v130), (7, .long v131), (9, .int v132)]) (pc := 383) C.1 C.2.1 dX9_fill_383 hl (k := 8) rfl (by rw [ex136]; rfl) (by decide) rfl (fun ls hl => ?_)
                                          refine lv_goto (tgt := 229) (pc := 386) C.1 C.2.1 dX9_fill_386 (by decide) ?_
                                          exact hw _ _ _ h (lv_sub hl [1, 2, 3, 4, 5, 6, 7, 8, 0] rfl))
                                      refine lv_if_ne (tgt := 264) (pc := 258) C.1 C.2.1 dX9_fill_258 (by decide) (fun c137 => ?_) (fun c137 => ?_)
                                      · have hw := hw.1 c137
                                        refine lv_bipush (v := 41) (pc := 264) C.1 C.2.1 dX9_fill_264 (by decide) ?_
                                        refine lv_iload (pc := 266) C.1 C.2.1 dX9_fill_266 (lv_at hl 4 rfl) ?_
                                        refine lv_imul (pc := 268) C.1 C.2.1 dX9_fill_268 ?_
                                        refine lv_bipush (v := 41) (pc := 269) C.1 C.2.1 dX9_fill_269 (by decide) ?_
                                        refine lv_iadd (pc := 271) C.1 C.2.1 dX9_fill_271 ?_
                                        refine lv_aload_n (pc := 272) C.1 C.2.1 dX9_fill_272 rfl (lv_at hl 0 rfl) ?_
                                        refine lv_iload_n (pc := 273) C.1 C.2.1 dX9_fill_273 rfl (lv_at hl 1 rfl) ?_
                                        refine lv_iload (pc := 274) C.1 C.2.1 dX9_fill_274 (lv_at hl 7 rfl) ?_
                                        refine lv_iload (pc := 276) C.1 C.2.1 dX9_fill_276 (lv_at hl 8 rfl) ?_
                                        refine lv_iadd (pc := 278) C.1 C.2.1 dX9_fill_278 ?_
                                        refine cl_vi (pc := 279) (As := [.int b1, .int (v120 + v121)]) (rest := [.int ((((41 : Int32)) * v117) + ((41 : Int32)))]) C h (m_X9_afterwards l D t a b1 (v120 + v121) z126 _ hw) mw_X9_afterwards lm_X9_320 md_X9_afterwards rcM_0 ⟨by decide, by decide⟩ ⟨Nat.zero_le _, Nat.zero_le _⟩ hl.1 rfl (Nat.le_of_ble_eq_true rfl) dX9_fill_279 (fun r139 z138 H locs hw h => ?_)
                                        refine lv_iadd (pc := 282) C.1 C.2.1 dX9_fill_282 ?_
                                        refine lv_topi (fun x140 ex140 => ?_)
                                        have hw := hw x140 ex140
                                        refine lv_istore (lv' := [(11, .int x140), (0, .ref (a 0)), (1, .int b1), (2, .int b2), (4, .int v116), (5, .int v117), (6, .int v118), (7, .long v119), (9, .int v120), (10, .int v121)]) (pc := 283) C.1 C.2.1 dX9_fill_283 hl (by decide) rfl (fun ls hl => ?_)
                                        refine lv_aload_n (pc := 285) C.1 C.2.1 dX9_fill_285 rfl (lv_at hl 1 rfl) ?_
                                        refine GM_X9_121_0 (pc := 286) C h dX9_fill_286 ?_
                                        refine lv_iload (pc := 289) C.1 C.2.1 dX9_fill_289 (lv_at hl 0 rfl) ?_
                                        refine ldM_34 (pc := 291) C h hw.1 dX9_fill_291 ?_
                                        have hw := hw.2
                                        refine lv_if_eq (tgt := 383) (pc := 292) C.1 C.2.1 dX9_fill_292 (by decide) (fun c141 => ?_) (fun c141 => ?_)
                                        · have hw := hw.1 c141
                                          exact hw _ _ _ h (lv_sub hl [1, 2, 3, 4, 5, 6, 7, 8, 9] rfl)
                                        · have hw := hw.2 c141
                                          refine lv_aload_n (pc := 295) C.1 C.2.1 dX9_fill_295 rfl (lv_at hl 1 rfl) ?_
                                          refine GM_X9_121_0 (pc := 296) C h dX9_fill_296 ?_
                                          refine lv_bipush (v := 41) (pc := 299) C.1 C.2.1 dX9_fill_299 (by decide) ?_
                                          refine lv_iload (pc := 301) C.1 C.2.1 dX9_fill_301 (lv_at hl 5 rfl) ?_
                                          refine lv_imul (pc := 303) C.1 C.2.1 dX9_fill_303 ?_
                                          refine lv_iload (pc := 304) C.1 C.2.1 dX9_fill_304 (lv_at hl 8 rfl) ?_
                                          refine lv_iadd (pc := 306) C.1 C.2.1 dX9_fill_306 ?_
                                          refine ldM_34 (pc := 307) C h hw.1 dX9_fill_307 ?_
                                          have hw := hw.2
                                          have hw := hw (fun (v142 : Int32) (v143 : Int32) (v144 : Int32) (v145 : Int64) (v146 : Int32) (v147 : Int32) (v148 : Int32) (z150 : St) => ∀ (H : Heap) (locs : List Loc) (ls : Array Slot), wd D t A s (wM t a z150) H locs → lv_has ls 13 [(0, .ref (a 0)), (1, .int b1), (2, .int b2), (4, .int v142), (5, .int v143), (6, .int v144), (7, .long v145), (9, .int v146), (10, .int v147), (11, .int v148)] → W p l e (rmd 3) s m args below meth c H locs 0 0 (QL D t A (wM t a) P below args s) (F0 m 342 ls [])) (by
                                              intro v142 v143 v144 v145 v146 v147 v148 z150 hw H locs ls h hl
                                              refine lv_aload_n (pc := 342) C.1 C.2.1 dX9_fill_342 rfl (lv_at hl 0 rfl) ?_
                                              refine GM_X9_121_0 (pc := 343) C h dX9_fill_343 ?_
                                              refine lv_bipush (v := 41) (pc := 346) C.1 C.2.1 dX9_fill_346 (by decide) ?_
                                              refine lv_iload (pc := 348) C.1 C.2.1 dX9_fill_348 (lv_at hl 4 rfl) ?_
                                              refine lv_imul (pc := 350) C.1 C.2.1 dX9_fill_350 ?_
                                              refine lv_iload (pc := 351) C.1 C.2.1 dX9_fill_351 (lv_at hl 7 rfl) ?_
                                              refine lv_iadd (pc := 353) C.1 C.2.1 dX9_fill_353 ?_
                                              refine lv_iconst (v := 1) (pc := 354) C.1 C.2.1 dX9_fill_354 (by decide) ?_
                                              refine stM_34 (pc := 355) C h hw.1 dX9_fill_355 (fun z151 ez151 H locs h => ?_)
                                              have hw := hw.2 z151 ez151
                                              refine lv_aload_n (pc := 356) C.1 C.2.1 dX9_fill_356 rfl (lv_at hl 0 rfl) ?_
                                              refine GM_X9_118_0 (pc := 357) C h dX9_fill_357 ?_
                                              refine lv_bipush (v := 41) (pc := 360) C.1 C.2.1 dX9_fill_360 (by decide) ?_
                                              refine lv_iload (pc := 362) C.1 C.2.1 dX9_fill_362 (lv_at hl 4 rfl) ?_
                                              refine lv_imul (pc := 364) C.1 C.2.1 dX9_fill_364 ?_
                                              refine lv_iload (pc := 365) C.1 C.2.1 dX9_fill_365 (lv_at hl 7 rfl) ?_
                                              refine lv_iadd (pc := 367) C.1 C.2.1 dX9_fill_367 ?_
                                              refine lv_aload_n (pc := 368) C.1 C.2.1 dX9_fill_368 rfl (lv_at hl 0 rfl) ?_
                                              refine GM_X9_118_0 (pc := 369) C h dX9_fill_369 ?_
                                              refine lv_iload (pc := 372) C.1 C.2.1 dX9_fill_372 (lv_at hl 9 rfl) ?_
                                              refine ldM_33 (pc := 374) C h hw.1 dX9_fill_374 ?_
                                              have hw := hw.2
                                              refine lv_iload (pc := 375) C.1 C.2.1 dX9_fill_375 (lv_at hl 8 rfl) ?_
                                              refine lv_i2l (pc := 377) C.1 C.2.1 dX9_fill_377 rfl ?_
                                              refine lv_lload (pc := 378) C.1 C.2.1 dX9_fill_378 (lv_at hl 6 rfl) ?_
                                              refine lv_lmul (pc := 380) C.1 C.2.1 dX9_fill_380 ?_
                                              refine lv_ladd (pc := 381) C.1 C.2.1 dX9_fill_381 ?_
                                              refine stM_33 (pc := 382) C h hw.1 dX9_fill_382 (fun z152 ez152 H locs h => ?_)
                                              have hw := hw.2 z152 ez152
                                              exact hw _ _ _ h (lv_sub hl [0, 1, 2, 3, 4, 5, 6, 7, 8] rfl))
                                          refine lv_if_eq (tgt := 342) (pc := 308) C.1 C.2.1 dX9_fill_308 (by decide) (fun c153 => ?_) (fun c153 => ?_)
                                          · have hw := hw.1 c153
                                            exact hw _ _ _ h (lv_sub hl [1, 2, 3, 4, 5, 6, 7, 8, 9, 0] rfl)
                                          · have hw := hw.2 c153
                                            refine lv_aload_n (pc := 311) C.1 C.2.1 dX9_fill_311 rfl (lv_at hl 1 rfl) ?_
                                            refine GM_X9_118_0 (pc := 312) C h dX9_fill_312 ?_
                                            refine lv_iload (pc := 315) C.1 C.2.1 dX9_fill_315 (lv_at hl 0 rfl) ?_
                                            refine ldM_33 (pc := 317) C h hw.1 dX9_fill_317 ?_
                                            have hw := hw.2
                                            refine lv_iload (pc := 318) C.1 C.2.1 dX9_fill_318 (lv_at hl 9 rfl) ?_
                                            refine lv_i2l (pc := 320) C.1 C.2.1 dX9_fill_320 rfl ?_
                                            refine lv_lload (pc := 321) C.1 C.2.1 dX9_fill_321 (lv_at hl 7 rfl) ?_
                                            refine lv_lmul (pc := 323) C.1 C.2.1 dX9_fill_323 ?_
                                            refine lv_ladd (pc := 324) C.1 C.2.1 dX9_fill_324 ?_
                                            refine lv_aload_n (pc := 325) C.1 C.2.1 dX9_fill_325 rfl (lv_at hl 1 rfl) ?_
                                            refine GM_X9_118_0 (pc := 326) C h dX9_fill_326 ?_
                                            refine lv_bipush (v := 41) (pc := 329) C.1 C.2.1 dX9_fill_329 (by decide) ?_
                                            refine lv_iload (pc := 331) C.1 C.2.1 dX9_fill_331 (lv_at hl 5 rfl) ?_
                                            refine lv_imul (pc := 333) C.1 C.2.1 dX9_fill_333 ?_
                                            refine lv_iload (pc := 334) C.1 C.2.1 dX9_fill_334 (lv_at hl 8 rfl) ?_
                                            refine lv_iadd (pc := 336) C.1 C.2.1 dX9_fill_336 ?_
                                            refine ldM_33 (pc := 337) C h hw.1 dX9_fill_337 ?_
                                            have hw := hw.2
                                            refine W.lcmp (pc := 338) C.1 C.2.1 dX9_fill_338 ?_
                                            refine lv_if_ge (tgt := 383) (pc := 339) C.1 C.2.1 dX9_fill_339 (by decide) (fun c154 => ?_) (fun c154 => ?_)
                                            · have hw := hw.1 c154
                                              exact hw _ _ _ h (lv_sub hl [1, 2, 3, 4, 5, 6, 7, 8, 9] rfl)
                                            · have hw := hw.2 c154
                                              exact hw _ _ _ h (lv_sub hl [1, 2, 3, 4, 5, 6, 7, 8, 9, 0] rfl)
                                      · have hw := hw.2 c137
                                        refine lv_goto (tgt := 383) (pc := 261) C.1 C.2.1 dX9_fill_261 (by decide) ?_
                                        exact hw _ _ _ h (lv_sub hl [0, 1, 2, 3, 4, 5, 6, 7, 8] rfl))
                                refine lv_topi (fun x155 ex155 => ?_)
                                have hw := hw x155 ex155
                                refine lv_istore (lv' := [(10, .int x155), (0, .ref (a 0)), (1, .int b1), (2, .int b2), (4, .int v106), (5, .int v107), (6, .int v108), (7, .long v109), (9, .int v110)]) (pc := 227) C.1 C.2.1 dX9_fill_227 hl (by decide) rfl (fun ls hl => ?_)
                                exact hw _ _ _ h (lv_sub hl [1, 2, 3, 4, 5, 6, 7, 8, 0] rfl))
                          refine lv_istore (lv' := [(9, .int ((0 : Int32))), (7, .long x105), (6, .int r102), (0, .ref (a 0)), (1, .int b1), (2, .int b2), (4, .int v23), (5, .int v24)]) (pc := 197) C.1 C.2.1 dX9_fill_197 hl (by decide) rfl (fun ls hl => ?_)
                          exact hw _ _ _ h (lv_sub hl [3, 4, 5, 6, 7, 2, 1, 0] rfl))
                    refine lv_topi (fun x156 ex156 => ?_)
                    have hw := hw x156 ex156
                    refine lv_istore (lv' := [(5, .int x156), (0, .ref (a 0)), (1, .int b1), (2, .int b2), (3, .int b3), (4, .int v18)]) (pc := 143) C.1 C.2.1 dX9_fill_143 hl (by decide) rfl (fun ls hl => ?_)
                    exact hw _ _ _ h (lv_sub hl [1, 2, 3, 5, 0] rfl)
                  · have hw := hw.2 c22
                    refine lv_aload_n (pc := 98) C.1 C.2.1 dX9_fill_98 rfl (lv_at hl 0 rfl) ?_
                    refine GM_X9_118_0 (pc := 99) C h dX9_fill_99 ?_
                    refine lv_bipush (v := 41) (pc := 102) C.1 C.2.1 dX9_fill_102 (by decide) ?_
                    refine lv_iload_n (pc := 104) C.1 C.2.1 dX9_fill_104 rfl (lv_at hl 2 rfl) ?_
                    refine lv_imul (pc := 105) C.1 C.2.1 dX9_fill_105 ?_
                    refine lv_iload (pc := 106) C.1 C.2.1 dX9_fill_106 (lv_at hl 5 rfl) ?_
                    refine lv_iadd (pc := 108) C.1 C.2.1 dX9_fill_108 ?_
                    refine lv_lconst (v := 0) (pc := 109) C.1 C.2.1 dX9_fill_109 (by decide) ?_
                    refine stM_33 (pc := 110) C h hw.1 dX9_fill_110 (fun z157 ez157 H locs h => ?_)
                    have hw := hw.2 z157 ez157
                    refine lv_aload_n (pc := 111) C.1 C.2.1 dX9_fill_111 rfl (lv_at hl 0 rfl) ?_
                    refine GM_X9_121_0 (pc := 112) C h dX9_fill_112 ?_
                    refine lv_bipush (v := 41) (pc := 115) C.1 C.2.1 dX9_fill_115 (by decide) ?_
                    refine lv_iload_n (pc := 117) C.1 C.2.1 dX9_fill_117 rfl (lv_at hl 2 rfl) ?_
                    refine lv_imul (pc := 118) C.1 C.2.1 dX9_fill_118 ?_
                    refine lv_iload (pc := 119) C.1 C.2.1 dX9_fill_119 (lv_at hl 5 rfl) ?_
                    refine lv_iadd (pc := 121) C.1 C.2.1 dX9_fill_121 ?_
                    refine lv_iload (pc := 122) C.1 C.2.1 dX9_fill_122 (lv_at hl 5 rfl) ?_
                    refine lv_iload_n (pc := 124) C.1 C.2.1 dX9_fill_124 rfl (lv_at hl 3 rfl) ?_
                    have hw := hw (fun (v158 : Int32) (v159 : Int32) (s160 : Int32) (s161 : Int32) (z163 : St) => ∀ (H : Heap) (locs : List Loc) (ls : Array Slot), wd D t A s (wM t a z163) H locs → lv_has ls 13 [(0, .ref (a 0)), (1, .int b1), (2, .int b2), (3, .int b3), (4, .int v158), (5, .int v159)] → W p l e (rmd 3) s m args below meth c H locs 0 0 (QL D t A (wM t a) P below args s) (F0 m 133 ls [.int s160, .int s161, .ref (a 34)])) (by
                        intro v158 v159 s160 s161 z163 hw H locs ls h hl
                        refine stM_34 (pc := 133) C h hw.1 dX9_fill_133 (fun z164 ez164 H locs h => ?_)
                        have hw := hw.2 z164 ez164
                        obtain ⟨x165, ex165⟩ : ∃ y : Int32, y = v159 + (1) := ⟨_, rfl⟩
                        have hw := hw x165 ex165
                        refine lv_iinc (v := x165) (lv' := [(5, .int x165), (0, .ref (a 0)), (1, .int b1), (2, .int b2), (3, .int b3), (4, .int v158)]) (pc := 134) C.1 C.2.1 dX9_fill_134 hl (k := 5) rfl (by rw [ex165]; rfl) (by decide) rfl (fun ls hl => ?_)
                        refine lv_goto (tgt := 91) (pc := 137) C.1 C.2.1 dX9_fill_137 (by decide) ?_
                        exact hw _ _ _ h (lv_sub hl [1, 2, 3, 4, 5, 0] rfl))
                    refine lv_icmp_lt (tgt := 132) (pc := 125) C.1 C.2.1 dX9_fill_125 (by decide) (fun c166 => ?_) (fun c166 => ?_)
                    · have hw := hw.1 c166
                      refine lv_iconst (v := 0) (pc := 132) C.1 C.2.1 dX9_fill_132 (by decide) ?_
                      exact hw _ _ _ h (lv_sub hl [0, 1, 2, 3, 4, 5] rfl)
                    · have hw := hw.2 c166
                      refine lv_iconst (v := 1) (pc := 128) C.1 C.2.1 dX9_fill_128 (by decide) ?_
                      refine lv_goto (tgt := 133) (pc := 129) C.1 C.2.1 dX9_fill_129 (by decide) ?_
                      exact hw _ _ _ h (lv_sub hl [0, 1, 2, 3, 4, 5] rfl))
              refine lv_istore (lv' := [(5, .int ((0 : Int32))), (4, .int x17), (0, .ref (a 0)), (1, .int b1), (2, .int b2), (3, .int b3)]) (pc := 89) C.1 C.2.1 dX9_fill_89 hl (by decide) rfl (fun ls hl => ?_)
              exact hw _ _ _ h (lv_sub hl [2, 3, 4, 5, 1, 0] rfl)
            · have hw := hw.2 c16
              refine lv_aload_n (pc := 68) C.1 C.2.1 dX9_fill_68 rfl (lv_at hl 0 rfl) ?_
              refine lv_bipush (v := -2) (pc := 69) C.1 C.2.1 dX9_fill_69 (by decide) ?_
              refine PM_X9_134_0 (pc := 71) C h dX9_fill_71 (fun z167 ez167 H locs h => ?_)
              have hw := hw z167 ez167
              refine lv_ldc2 (pc := 74) C.1 C.2.1 C.2.2.2.1 (C.2.2.2.2 _ lc_X9_314) dX9_fill_74 ?_
              exact rt_l (pc := 77) C hr hlk h hw dX9_fill_77)
        refine lv_if_eq (tgt := 60) (pc := 38) C.1 C.2.1 dX9_fill_38 (by decide) (fun c168 => ?_) (fun c168 => ?_)
        · have hw := hw.1 c168
          exact hw _ _ _ h (lv_sub hl [0, 1, 2, 3] rfl)
        · have hw := hw.2 c168
          refine lv_iload_n (pc := 41) C.1 C.2.1 dX9_fill_41 rfl (lv_at hl 3 rfl) ?_
          refine lv_aload_n (pc := 42) C.1 C.2.1 dX9_fill_42 rfl (lv_at hl 0 rfl) ?_
          refine GM_X9_100_0 (pc := 43) C h dX9_fill_43 ?_
          refine lv_iload_n (pc := 46) C.1 C.2.1 dX9_fill_46 rfl (lv_at hl 1 rfl) ?_
          refine ldM_27 (pc := 47) C h hw.1 dX9_fill_47 ?_
          have hw := hw.2
          refine lv_icmp_le (tgt := 60) (pc := 48) C.1 C.2.1 dX9_fill_48 (by decide) (fun c169 => ?_) (fun c169 => ?_)
          · have hw := hw.1 c169
            exact hw _ _ _ h (lv_sub hl [0, 1, 2, 3] rfl)
          · have hw := hw.2 c169
            exact hw _ _ _ h (lv_sub hl [0] rfl)

def wp_X9_filled (b1 : Int32) (b2 : Int32) (z : St) (P : Int32 → St → Prop) : Prop :=
  (∀ z1 : St, z1 = wI z 0 ((0 : Int32)) → (wp_X9_in (Int32.toInt64 b1) ((0 : Int64)) ((Int32.toInt64 (gI z1 55)) - ((1 : Int64))) z1 (fun r3 z2 => (((¬ r3 = 0) → (((¬ b2 = 0) → (((¬ b2 = ((1 : Int32))) → P ((-1000 : Int32)) z2) ∧ (b2 = ((1 : Int32)) → (vp_in b1 48 ∧ P (gF z2 36 b1.toNatClampNeg) z2)))) ∧ (b2 = 0 → (vp_in b1 48 ∧ P (gF z2 35 b1.toNatClampNeg) z2)))) ∧ (r3 = 0 → P ((-1000 : Int32)) z2)))))
set_option maxHeartbeats 4000000 in
set_option maxRecDepth 100000 in
theorem m_X9_filled (l : Launch) (D : va_G) (t : Ty3) (a : Nat → Nat) (b1 : Int32) (b2 : Int32) (z : St) (P : Int32 → St → Prop) (hw : wp_X9_filled b1 b2 z P) : CtI l D t yX9_filled cX9_filled 3 (some .int) 1 (wM t a) (wM t a z) [.ref (a 0), .int b1, .int b2] P := by
  refine ctI_of (by decide) (Nat.le_of_ble_eq_true rfl) ?_
  intro p e s m args below meth c A ls C hr hlk h hl
  have hl : lv_has ls 3 [(0, .ref (a 0)), (1, .int b1), (2, .int b2)] := hl
  unfold wp_X9_filled at hw
  refine lv_aload_n (pc := 0) C.1 C.2.1 dX9_filled_0 rfl (lv_at hl 0 rfl) ?_
  refine lv_iconst (v := 0) (pc := 1) C.1 C.2.1 dX9_filled_1 (by decide) ?_
  refine PM_X9_131_0 (pc := 2) C h dX9_filled_2 (fun z1 ez1 H locs h => ?_)
  have hw := hw z1 ez1
  refine lv_iload_n (pc := 5) C.1 C.2.1 dX9_filled_5 rfl (lv_at hl 1 rfl) ?_
  refine lv_i2l (pc := 6) C.1 C.2.1 dX9_filled_6 rfl ?_
  refine lv_lconst (v := 0) (pc := 7) C.1 C.2.1 dX9_filled_7 (by decide) ?_
  refine lv_aload_n (pc := 8) C.1 C.2.1 dX9_filled_8 rfl (lv_at hl 0 rfl) ?_
  refine GM_X9_323_0 (pc := 9) C h dX9_filled_9 ?_
  refine lv_i2l (pc := 12) C.1 C.2.1 dX9_filled_12 rfl ?_
  refine lv_lconst (v := 1) (pc := 13) C.1 C.2.1 dX9_filled_13 (by decide) ?_
  refine lv_lsub (pc := 14) C.1 C.2.1 dX9_filled_14 ?_
  refine cl_si (pc := 15) (As := [.long (Int32.toInt64 b1), .long ((0 : Int64)), .long ((Int32.toInt64 (gI z1 55)) - ((1 : Int64)))]) (rest := []) C h (m_X9_in l D t a (Int32.toInt64 b1) ((0 : Int64)) ((Int32.toInt64 (gI z1 55)) - ((1 : Int64))) z1 _ hw) mw_X9_in lm_X9_139 md_X9_in ⟨by decide, by decide⟩ ⟨Nat.zero_le _, Nat.zero_le _⟩ hl.1 rfl (Nat.le_of_ble_eq_true rfl) dX9_filled_15 (fun r3 z2 H locs hw h => ?_)
  refine lv_if_ne (tgt := 27) (pc := 18) C.1 C.2.1 dX9_filled_18 (by decide) (fun c4 => ?_) (fun c4 => ?_)
  · have hw := hw.1 c4
    refine lv_iload_n (pc := 27) C.1 C.2.1 dX9_filled_27 rfl (lv_at hl 2 rfl) ?_
    refine lv_if_ne (tgt := 40) (pc := 28) C.1 C.2.1 dX9_filled_28 (by decide) (fun c5 => ?_) (fun c5 => ?_)
    · have hw := hw.1 c5
      refine lv_iload_n (pc := 40) C.1 C.2.1 dX9_filled_40 rfl (lv_at hl 2 rfl) ?_
      refine lv_iconst (v := 1) (pc := 41) C.1 C.2.1 dX9_filled_41 (by decide) ?_
      refine lv_icmp_ne (tgt := 54) (pc := 42) C.1 C.2.1 dX9_filled_42 (by decide) (fun c6 => ?_) (fun c6 => ?_)
      · have hw := hw.1 c6
        refine lv_sipush (v := -1000) (pc := 54) C.1 C.2.1 dX9_filled_54 (by decide) ?_
        exact rt_i (pc := 57) C hr hlk h hw dX9_filled_57
      · have hw := hw.2 c6
        refine lv_aload_n (pc := 45) C.1 C.2.1 dX9_filled_45 rfl (lv_at hl 0 rfl) ?_
        refine GM_X9_128_0 (pc := 46) C h dX9_filled_46 ?_
        refine lv_iload_n (pc := 49) C.1 C.2.1 dX9_filled_49 rfl (lv_at hl 1 rfl) ?_
        refine ldM_36 (pc := 50) C h hw.1 dX9_filled_50 ?_
        have hw := hw.2
        refine lv_goto (tgt := 57) (pc := 51) C.1 C.2.1 dX9_filled_51 (by decide) ?_
        exact rt_i (pc := 57) C hr hlk h hw dX9_filled_57
    · have hw := hw.2 c5
      refine lv_aload_n (pc := 31) C.1 C.2.1 dX9_filled_31 rfl (lv_at hl 0 rfl) ?_
      refine GM_X9_125_0 (pc := 32) C h dX9_filled_32 ?_
      refine lv_iload_n (pc := 35) C.1 C.2.1 dX9_filled_35 rfl (lv_at hl 1 rfl) ?_
      refine ldM_35 (pc := 36) C h hw.1 dX9_filled_36 ?_
      have hw := hw.2
      refine lv_goto (tgt := 57) (pc := 37) C.1 C.2.1 dX9_filled_37 (by decide) ?_
      exact rt_i (pc := 57) C hr hlk h hw dX9_filled_57
  · have hw := hw.2 c4
    refine lv_sipush (v := -1000) (pc := 21) C.1 C.2.1 dX9_filled_21 (by decide) ?_
    refine lv_goto (tgt := 57) (pc := 24) C.1 C.2.1 dX9_filled_24 (by decide) ?_
    exact rt_i (pc := 57) C hr hlk h hw dX9_filled_57

def wp_X9_jobsThat (b1 : Int32) (z : St) (P : Int32 → St → Prop) : Prop :=
  (∀ K3 : Int32 → Int32 → St → Prop, (∀ (v1 : Int32) (v2 : Int32) (z4 : St), ((((gI z4 12) ≤ v2) → P v1 z4) ∧ (¬ ((gI z4 12) ≤ v2) → (vp_in v2 16 ∧ (∀ K9 : Int32 → Int32 → Int32 → St → Prop, (∀ (v6 : Int32) (s7 : Int32) (s8 : Int32) (z10 : St), (∀ x11 : Int32, x11 = s8 + s7 → (∀ x12 : Int32, x12 = v6 + (1) → K3 x11 x12 z10)) → K9 v6 s7 s8 z10) → (((¬ (gF z4 11 v2.toNatClampNeg) = b1) → K9 v2 ((0 : Int32)) v1 z4) ∧ ((gF z4 11 v2.toNatClampNeg) = b1 → K9 v2 ((1 : Int32)) v1 z4)))))) → K3 v1 v2 z4) → K3 ((0 : Int32)) ((0 : Int32)) z)
set_option maxHeartbeats 4000000 in
set_option maxRecDepth 100000 in
theorem m_X9_jobsThat (l : Launch) (D : va_G) (t : Ty3) (a : Nat → Nat) (b1 : Int32) (z : St) (P : Int32 → St → Prop) (hw : wp_X9_jobsThat b1 z P) : CtI l D t yX9_jobsThat cX9_jobsThat 4 (some .int) 0 (wM t a) (wM t a z) [.ref (a 0), .int b1] P := by
  refine ctI_of (by decide) (Nat.le_of_ble_eq_true rfl) ?_
  intro p e s m args below meth c A ls C hr hlk h hl
  have hl : lv_has ls 4 [(0, .ref (a 0)), (1, .int b1)] := hl
  unfold wp_X9_jobsThat at hw
  refine lv_iconst (v := 0) (pc := 0) C.1 C.2.1 dX9_jobsThat_0 (by decide) ?_
  refine lv_istore_n (lv' := [(2, .int ((0 : Int32))), (0, .ref (a 0)), (1, .int b1)]) (pc := 1) C.1 C.2.1 dX9_jobsThat_1 rfl hl (by decide) rfl (fun ls hl => ?_)
  refine lv_iconst (v := 0) (pc := 2) C.1 C.2.1 dX9_jobsThat_2 (by decide) ?_
  have hw := hw (fun (v1 : Int32) (v2 : Int32) (z4 : St) => ∀ (H : Heap) (locs : List Loc) (ls : Array Slot), wd D t A s (wM t a z4) H locs → lv_has ls 4 [(0, .ref (a 0)), (1, .int b1), (2, .int v1), (3, .int v2)] → W p l e (rmd 0) s m args below meth c H locs 0 0 (QI D t A (wM t a) P below args s) (F0 m 4 ls [])) (by
      intro v1 v2 z4 hw H locs ls h hl
      refine lv_iload_n (pc := 4) C.1 C.2.1 dX9_jobsThat_4 rfl (lv_at hl 3 rfl) ?_
      refine lv_aload_n (pc := 5) C.1 C.2.1 dX9_jobsThat_5 rfl (lv_at hl 0 rfl) ?_
      refine GM_X9_148_0 (pc := 6) C h dX9_jobsThat_6 ?_
      refine lv_icmp_ge (tgt := 36) (pc := 9) C.1 C.2.1 dX9_jobsThat_9 (by decide) (fun c5 => ?_) (fun c5 => ?_)
      · have hw := hw.1 c5
        refine lv_iload_n (pc := 36) C.1 C.2.1 dX9_jobsThat_36 rfl (lv_at hl 2 rfl) ?_
        exact rt_i (pc := 37) C hr hlk h hw dX9_jobsThat_37
      · have hw := hw.2 c5
        refine lv_iload_n (pc := 12) C.1 C.2.1 dX9_jobsThat_12 rfl (lv_at hl 2 rfl) ?_
        refine lv_aload_n (pc := 13) C.1 C.2.1 dX9_jobsThat_13 rfl (lv_at hl 0 rfl) ?_
        refine GM_X9_48_0 (pc := 14) C h dX9_jobsThat_14 ?_
        refine lv_iload_n (pc := 17) C.1 C.2.1 dX9_jobsThat_17 rfl (lv_at hl 3 rfl) ?_
        refine ldM_11 (pc := 18) C h hw.1 dX9_jobsThat_18 ?_
        have hw := hw.2
        refine lv_iload_n (pc := 19) C.1 C.2.1 dX9_jobsThat_19 rfl (lv_at hl 1 rfl) ?_
        have hw := hw (fun (v6 : Int32) (s7 : Int32) (s8 : Int32) (z10 : St) => ∀ (H : Heap) (locs : List Loc) (ls : Array Slot), wd D t A s (wM t a z10) H locs → lv_has ls 4 [(0, .ref (a 0)), (1, .int b1), (3, .int v6)] → W p l e (rmd 0) s m args below meth c H locs 0 0 (QI D t A (wM t a) P below args s) (F0 m 28 ls [.int s7, .int s8])) (by
            intro v6 s7 s8 z10 hw H locs ls h hl
            refine lv_iadd (pc := 28) C.1 C.2.1 dX9_jobsThat_28 ?_
            refine lv_topi (fun x11 ex11 => ?_)
            have hw := hw x11 ex11
            refine lv_istore_n (lv' := [(2, .int x11), (0, .ref (a 0)), (1, .int b1), (3, .int v6)]) (pc := 29) C.1 C.2.1 dX9_jobsThat_29 rfl hl (by decide) rfl (fun ls hl => ?_)
            obtain ⟨x12, ex12⟩ : ∃ y : Int32, y = v6 + (1) := ⟨_, rfl⟩
            have hw := hw x12 ex12
            refine lv_iinc (v := x12) (lv' := [(3, .int x12), (2, .int x11), (0, .ref (a 0)), (1, .int b1)]) (pc := 30) C.1 C.2.1 dX9_jobsThat_30 hl (k := 3) rfl (by rw [ex12]; rfl) (by decide) rfl (fun ls hl => ?_)
            refine lv_goto (tgt := 4) (pc := 33) C.1 C.2.1 dX9_jobsThat_33 (by decide) ?_
            exact hw _ _ _ h (lv_sub hl [2, 3, 1, 0] rfl))
        refine lv_icmp_ne (tgt := 27) (pc := 20) C.1 C.2.1 dX9_jobsThat_20 (by decide) (fun c13 => ?_) (fun c13 => ?_)
        · have hw := hw.1 c13
          refine lv_iconst (v := 0) (pc := 27) C.1 C.2.1 dX9_jobsThat_27 (by decide) ?_
          exact hw _ _ _ h (lv_sub hl [0, 1, 3] rfl)
        · have hw := hw.2 c13
          refine lv_iconst (v := 1) (pc := 23) C.1 C.2.1 dX9_jobsThat_23 (by decide) ?_
          refine lv_goto (tgt := 28) (pc := 24) C.1 C.2.1 dX9_jobsThat_24 (by decide) ?_
          exact hw _ _ _ h (lv_sub hl [0, 1, 3] rfl))
  refine lv_istore_n (lv' := [(3, .int ((0 : Int32))), (2, .int ((0 : Int32))), (0, .ref (a 0)), (1, .int b1)]) (pc := 3) C.1 C.2.1 dX9_jobsThat_3 rfl hl (by decide) rfl (fun ls hl => ?_)
  exact hw _ _ _ h (lv_sub hl [2, 3, 1, 0] rfl)
