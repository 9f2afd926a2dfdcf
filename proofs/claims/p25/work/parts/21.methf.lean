def wp_X1_beginBefore (b1 : Int32) (z : St) (P : St → Prop) : Prop :=
  (∀ K2 : Int32 → St → Prop, (∀ (v1 : Int32) (z3 : St), ((((gI z3 1308) ≤ v1) → P z3) ∧ (¬ ((gI z3 1308) ≤ v1) → (vp_in v1 16 ∧ (∀ K5 : St → Prop, (∀ (z6 : St), (∀ x7 : Int32, x7 = v1 + (1) → K2 x7 z6) → K5 z6) → (((¬ (gF z3 19 v1.toNatClampNeg) = ((1 : Int32))) → K5 z3) ∧ ((gF z3 19 v1.toNatClampNeg) = ((1 : Int32)) → (vp_in v1 16 ∧ (((b1 ≤ (gF z3 20 v1.toNatClampNeg)) → K5 z3) ∧ (¬ (b1 ≤ (gF z3 20 v1.toNatClampNeg)) → (vp_in v1 16 ∧ (∀ z10 : St, z10 = wR z3 19 (upd (gF z3 19) v1.toNatClampNeg ((2 : Int32))) → K5 z10))))))))))) → K2 v1 z3) → K2 ((0 : Int32)) z)
set_option maxHeartbeats 4000000 in
set_option maxRecDepth 100000 in
theorem m_X1_beginBefore (l : Launch) (D : va_G) (t : Ty3) (a : Nat → Nat) (b1 : Int32) (z : St) (P : St → Prop) (hw : wp_X1_beginBefore b1 z P) : CtV l D t yX1_beginBefore cX1_beginBefore 3 none 0 (wX t a) (wX t a z) [.ref (a 13), .int b1] P := by
  refine ctV_of (by decide) (Nat.le_of_ble_eq_true rfl) ?_
  intro p e s m args below meth c A ls C hr hlk h hl
  have hl : lv_has ls 3 [(0, .ref (a 13)), (1, .int b1)] := hl
  unfold wp_X1_beginBefore at hw
  refine lv_iconst (v := 0) (pc := 0) C.1 C.2.1 dX1_beginBefore_0 (by decide) ?_
  have hw := hw (fun (v1 : Int32) (z3 : St) => ∀ (H : Heap) (locs : List Loc) (ls : Array Slot), wd D t A s (wX t a z3) H locs → lv_has ls 3 [(0, .ref (a 13)), (1, .int b1), (2, .int v1)] → W p l e (rmd 0) s m args below meth c H locs 0 0 (QV D t A (wX t a) P below args s) (F0 m 2 ls [])) (by
      intro v1 z3 hw H locs ls h hl
      refine lv_iload_n (pc := 2) C.1 C.2.1 dX1_beginBefore_2 rfl (lv_at hl 2 rfl) ?_
      refine lv_aload_n (pc := 3) C.1 C.2.1 dX1_beginBefore_3 rfl (lv_at hl 0 rfl) ?_
      refine GX_X1_37_13 (pc := 4) C h dX1_beginBefore_4 ?_
      refine lv_icmp_ge (tgt := 43) (pc := 7) C.1 C.2.1 dX1_beginBefore_7 (by decide) (fun c4 => ?_) (fun c4 => ?_)
      · have hw := hw.1 c4
        exact rt_v (pc := 43) C hr hlk h hw dX1_beginBefore_43
      · have hw := hw.2 c4
        refine lv_aload_n (pc := 10) C.1 C.2.1 dX1_beginBefore_10 rfl (lv_at hl 0 rfl) ?_
        refine GX_X1_27_13 (pc := 11) C h dX1_beginBefore_11 ?_
        refine lv_iload_n (pc := 14) C.1 C.2.1 dX1_beginBefore_14 rfl (lv_at hl 2 rfl) ?_
        refine ldX_19 (pc := 15) C h hw.1 dX1_beginBefore_15 ?_
        have hw := hw.2
        refine lv_iconst (v := 1) (pc := 16) C.1 C.2.1 dX1_beginBefore_16 (by decide) ?_
        have hw := hw (fun (z6 : St) => ∀ (H : Heap) (locs : List Loc) (ls : Array Slot), wd D t A s (wX t a z6) H locs → lv_has ls 3 [(0, .ref (a 13)), (1, .int b1), (2, .int v1)] → W p l e (rmd 0) s m args below meth c H locs 0 0 (QV D t A (wX t a) P below args s) (F0 m 37 ls [])) (by
            intro z6 hw H locs ls h hl
            obtain ⟨x7, ex7⟩ : ∃ y : Int32, y = v1 + (1) := ⟨_, rfl⟩
            have hw := hw x7 ex7
            refine lv_iinc (v := x7) (lv' := [(2, .int x7), (0, .ref (a 13)), (1, .int b1)]) (pc := 37) C.1 C.2.1 dX1_beginBefore_37 hl (k := 2) rfl (by rw [ex7]; rfl) (by decide) rfl (fun ls hl => ?_)
            refine lv_goto (tgt := 2) (pc := 40) C.1 C.2.1 dX1_beginBefore_40 (by decide) ?_
            exact hw _ _ _ h (lv_sub hl [1, 2, 0] rfl))
        refine lv_icmp_ne (tgt := 37) (pc := 17) C.1 C.2.1 dX1_beginBefore_17 (by decide) (fun c8 => ?_) (fun c8 => ?_)
        · have hw := hw.1 c8
          exact hw _ _ _ h (lv_sub hl [0, 1, 2] rfl)
        · have hw := hw.2 c8
          refine lv_aload_n (pc := 20) C.1 C.2.1 dX1_beginBefore_20 rfl (lv_at hl 0 rfl) ?_
          refine GX_X1_30_13 (pc := 21) C h dX1_beginBefore_21 ?_
          refine lv_iload_n (pc := 24) C.1 C.2.1 dX1_beginBefore_24 rfl (lv_at hl 2 rfl) ?_
          refine ldX_20 (pc := 25) C h hw.1 dX1_beginBefore_25 ?_
          have hw := hw.2
          refine lv_iload_n (pc := 26) C.1 C.2.1 dX1_beginBefore_26 rfl (lv_at hl 1 rfl) ?_
          refine lv_icmp_ge (tgt := 37) (pc := 27) C.1 C.2.1 dX1_beginBefore_27 (by decide) (fun c9 => ?_) (fun c9 => ?_)
          · have hw := hw.1 c9
            exact hw _ _ _ h (lv_sub hl [0, 1, 2] rfl)
          · have hw := hw.2 c9
            refine lv_aload_n (pc := 30) C.1 C.2.1 dX1_beginBefore_30 rfl (lv_at hl 0 rfl) ?_
            refine GX_X1_27_13 (pc := 31) C h dX1_beginBefore_31 ?_
            refine lv_iload_n (pc := 34) C.1 C.2.1 dX1_beginBefore_34 rfl (lv_at hl 2 rfl) ?_
            refine lv_iconst (v := 2) (pc := 35) C.1 C.2.1 dX1_beginBefore_35 (by decide) ?_
            refine stX_19 (pc := 36) C h hw.1 dX1_beginBefore_36 (fun z10 ez10 H locs h => ?_)
            have hw := hw.2 z10 ez10
            exact hw _ _ _ h (lv_sub hl [0, 1, 2] rfl))
  refine lv_istore_n (lv' := [(2, .int ((0 : Int32))), (0, .ref (a 13)), (1, .int b1)]) (pc := 1) C.1 C.2.1 dX1_beginBefore_1 rfl hl (by decide) rfl (fun ls hl => ?_)
  exact hw _ _ _ h (lv_sub hl [1, 2, 0] rfl)

def wp_X8_go (b1 : Int32) (z : St) (P : Int32 → St → Prop) : Prop :=
  (∀ K1 : Prop, ((wp_X8_refuse ((-1 : Int32)) z (fun r3 z2 => P r3 z2)) → K1) → (((b1 < ((1 : Int32))) → K1) ∧ (¬ (b1 < ((1 : Int32))) → (((((48 : Int32)) < b1) → K1) ∧ (¬ (((48 : Int32)) < b1) → (((((gI z 2104) + b1) < ((168 : Int32))) → (∀ z7 : St, z7 = wI z 2104 ((gI z 2104) + b1) → (wp_X1_beginBefore (gI z7 2104) z7 (fun z8 => (wp_X3_lay_5 (gI z8 2104) z8 (fun z10 => (wp_X8_accept (gI z10 2104) z10 (fun r13 z12 => P r13 z12)))))))) ∧ (¬ (((gI z 2104) + b1) < ((168 : Int32))) → K1)))))))
set_option maxHeartbeats 4000000 in
set_option maxRecDepth 100000 in
theorem m_X8_go (l : Launch) (D : va_G) (t : Ty3) (a : Nat → Nat) (b1 : Int32) (z : St) (P : Int32 → St → Prop) (hw : wp_X8_go b1 z P) : CtI l D t yX8_go cX8_go 2 (some .int) 2 (wX t a) (wX t a z) [.ref (a 0), .int b1] P := by
  refine ctI_of (by decide) (Nat.le_of_ble_eq_true rfl) ?_
  intro p e s m args below meth c A ls C hr hlk h hl
  have hl : lv_has ls 2 [(0, .ref (a 0)), (1, .int b1)] := hl
  unfold wp_X8_go at hw
  refine lv_iload_n (pc := 0) C.1 C.2.1 dX8_go_0 rfl (lv_at hl 1 rfl) ?_
  refine lv_iconst (v := 1) (pc := 1) C.1 C.2.1 dX8_go_1 (by decide) ?_
  have hw := hw (∀ (H : Heap) (locs : List Loc) (ls : Array Slot), wd D t A s (wX t a z) H locs → lv_has ls 2 [(0, .ref (a 0))] → W p l e (rmd 2) s m args below meth c H locs 0 0 (QI D t A (wX t a) P below args s) (F0 m 26 ls [])) (by
      intro hw H locs ls h hl
      refine lv_aload_n (pc := 26) C.1 C.2.1 dX8_go_26 rfl (lv_at hl 0 rfl) ?_
      refine lv_iconst (v := -1) (pc := 27) C.1 C.2.1 dX8_go_27 (by decide) ?_
      refine cl_vi (pc := 28) (As := [.int ((-1 : Int32))]) (rest := []) C h (m_X8_refuse l D t a ((-1 : Int32)) z _ hw) mw_X8_refuse lm_X8_81 md_X8_refuse rcX_0 ⟨by decide, by decide⟩ ⟨Nat.zero_le _, Nat.zero_le _⟩ hl.1 rfl (Nat.le_of_ble_eq_true rfl) dX8_go_28 (fun r3 z2 H locs hw h => ?_)
      exact rt_i (pc := 31) C hr hlk h hw dX8_go_31)
  refine lv_icmp_lt (tgt := 26) (pc := 2) C.1 C.2.1 dX8_go_2 (by decide) (fun c4 => ?_) (fun c4 => ?_)
  · have hw := hw.1 c4
    exact hw _ _ _ h (lv_sub hl [0] rfl)
  · have hw := hw.2 c4
    refine lv_iload_n (pc := 5) C.1 C.2.1 dX8_go_5 rfl (lv_at hl 1 rfl) ?_
    refine lv_bipush (v := 48) (pc := 6) C.1 C.2.1 dX8_go_6 (by decide) ?_
    refine lv_icmp_gt (tgt := 26) (pc := 8) C.1 C.2.1 dX8_go_8 (by decide) (fun c5 => ?_) (fun c5 => ?_)
    · have hw := hw.1 c5
      exact hw _ _ _ h (lv_sub hl [0] rfl)
    · have hw := hw.2 c5
      refine lv_aload_n (pc := 11) C.1 C.2.1 dX8_go_11 rfl (lv_at hl 0 rfl) ?_
      refine GX_X8_37_0 (pc := 12) C h dX8_go_12 ?_
      refine GX_X8_92_21 (pc := 15) C h dX8_go_15 ?_
      refine lv_iload_n (pc := 18) C.1 C.2.1 dX8_go_18 rfl (lv_at hl 1 rfl) ?_
      refine lv_iadd (pc := 19) C.1 C.2.1 dX8_go_19 ?_
      refine lv_sipush (v := 168) (pc := 20) C.1 C.2.1 dX8_go_20 (by decide) ?_
      refine lv_icmp_lt (tgt := 32) (pc := 23) C.1 C.2.1 dX8_go_23 (by decide) (fun c6 => ?_) (fun c6 => ?_)
      · have hw := hw.1 c6
        refine lv_aload_n (pc := 32) C.1 C.2.1 dX8_go_32 rfl (lv_at hl 0 rfl) ?_
        refine GX_X8_37_0 (pc := 33) C h dX8_go_33 ?_
        refine lv_dup (pc := 36) C.1 C.2.1 dX8_go_36 rfl ?_
        refine GX_X8_92_21 (pc := 37) C h dX8_go_37 ?_
        refine lv_iload_n (pc := 40) C.1 C.2.1 dX8_go_40 rfl (lv_at hl 1 rfl) ?_
        refine lv_iadd (pc := 41) C.1 C.2.1 dX8_go_41 ?_
        refine PX_X8_92_21 (pc := 42) C h dX8_go_42 (fun z7 ez7 H locs h => ?_)
        have hw := hw z7 ez7
        refine lv_aload_n (pc := 45) C.1 C.2.1 dX8_go_45 rfl (lv_at hl 0 rfl) ?_
        refine GX_X8_28_0 (pc := 46) C h dX8_go_46 ?_
        refine lv_aload_n (pc := 49) C.1 C.2.1 dX8_go_49 rfl (lv_at hl 0 rfl) ?_
        refine GX_X8_37_0 (pc := 50) C h dX8_go_50 ?_
        refine GX_X8_92_21 (pc := 53) C h dX8_go_53 ?_
        refine cl_vv (pc := 56) (As := [.int (gI z7 2104)]) (rest := []) C h (m_X1_beginBefore l D t a (gI z7 2104) z7 _ hw) mw_X1_beginBefore lm_X8_216 md_X1_beginBefore rcX_13 ⟨by decide, by decide⟩ ⟨Nat.zero_le _, Nat.zero_le _⟩ hl.1 rfl (Nat.le_of_ble_eq_true rfl) dX8_go_56 (fun z8 H locs hw h => ?_)
        refine lv_aload_n (pc := 59) C.1 C.2.1 dX8_go_59 rfl (lv_at hl 0 rfl) ?_
        refine GX_X8_10_0 (pc := 60) C h dX8_go_60 ?_
        refine lv_aload_n (pc := 63) C.1 C.2.1 dX8_go_63 rfl (lv_at hl 0 rfl) ?_
        refine GX_X8_10_0 (pc := 64) C h dX8_go_64 ?_
        refine GX_X8_95_1 (pc := 67) C h dX8_go_67 ?_
        refine lv_aload_n (pc := 70) C.1 C.2.1 dX8_go_70 rfl (lv_at hl 0 rfl) ?_
        refine GX_X8_37_0 (pc := 71) C h dX8_go_71 ?_
        refine GX_X8_92_21 (pc := 74) C h dX8_go_74 ?_
        refine cl_vv (pc := 77) (As := [.ref (a 5), .int (gI z8 2104)]) (rest := []) C h (m_X3_lay_5 l D t a (gI z8 2104) z8 _ hw) mw_X3_lay lm_X8_105 md_X3_lay rcX_1 ⟨by decide, by decide⟩ ⟨Nat.zero_le _, Nat.zero_le _⟩ hl.1 rfl (Nat.le_of_ble_eq_true rfl) dX8_go_77 (fun z10 H locs hw h => ?_)
        refine lv_aload_n (pc := 80) C.1 C.2.1 dX8_go_80 rfl (lv_at hl 0 rfl) ?_
        refine lv_aload_n (pc := 81) C.1 C.2.1 dX8_go_81 rfl (lv_at hl 0 rfl) ?_
        refine GX_X8_37_0 (pc := 82) C h dX8_go_82 ?_
        refine GX_X8_92_21 (pc := 85) C h dX8_go_85 ?_
        refine cl_vi (pc := 88) (As := [.int (gI z10 2104)]) (rest := []) C h (m_X8_accept l D t a (gI z10 2104) z10 _ hw) mw_X8_accept lm_X8_99 md_X8_accept rcX_0 ⟨by decide, by decide⟩ ⟨Nat.zero_le _, Nat.zero_le _⟩ hl.1 rfl (Nat.le_of_ble_eq_true rfl) dX8_go_88 (fun r13 z12 H locs hw h => ?_)
        exact rt_i (pc := 91) C hr hlk h hw dX8_go_91
      · have hw := hw.2 c6
        exact hw _ _ _ h (lv_sub hl [0] rfl)

def wp_X8_load (b1 : Int32) (b2 : Int32) (z : St) (P : Int32 → Prop) : Prop :=
  (wp_X0_has b1 z (fun r2 => (((r2 = 0) → P ((-1 : Int32))) ∧ (¬ (r2 = 0) → (wp_X8_isHour b2 z (fun r5 => (((r5 = 0) → P ((-1 : Int32))) ∧ (¬ (r5 = 0) → (wp_X0_draws b1 b2 z (fun r8 => P r8))))))))))
set_option maxHeartbeats 4000000 in
set_option maxRecDepth 100000 in
theorem m_X8_load (l : Launch) (D : va_G) (t : Ty3) (a : Nat → Nat) (b1 : Int32) (b2 : Int32) (z : St) (P : Int32 → Prop) (hw : wp_X8_load b1 b2 z P) : CtI l D t yX8_load cX8_load 3 (some .int) 2 (wX t a) (wX t a z) [.ref (a 0), .int b1, .int b2] (fun rr zz => zz = z ∧ P rr) := by
  refine ctI_of (by decide) (Nat.le_of_ble_eq_true rfl) ?_
  intro p e s m args below meth c A ls C hr hlk h hl
  have hl : lv_has ls 3 [(0, .ref (a 0)), (1, .int b1), (2, .int b2)] := hl
  unfold wp_X8_load at hw
  refine lv_aload_n (pc := 0) C.1 C.2.1 dX8_load_0 rfl (lv_at hl 0 rfl) ?_
  refine GX_X8_19_0 (pc := 1) C h dX8_load_1 ?_
  refine lv_iload_n (pc := 4) C.1 C.2.1 dX8_load_4 rfl (lv_at hl 1 rfl) ?_
  refine cl_vi (pc := 5) (As := [.int b1]) (rest := []) C h (m_X0_has l D t a b1 z _ hw) mw_X0_has lm_X8_121 md_X0_has rcX_7 ⟨by decide, by decide⟩ ⟨Nat.zero_le _, Nat.zero_le _⟩ hl.1 rfl (Nat.le_of_ble_eq_true rfl) dX8_load_5 (fun r2 z1 H locs hw h => ?_)
  rw [hw.1] at h
  have hw := hw.2
  refine lv_if_eq (tgt := 30) (pc := 8) C.1 C.2.1 dX8_load_8 (by decide) (fun c3 => ?_) (fun c3 => ?_)
  · have hw := hw.1 c3
    refine lv_iconst (v := -1) (pc := 30) C.1 C.2.1 dX8_load_30 (by decide) ?_
    exact rt_i (pc := 31) C hr hlk h ⟨rfl, hw⟩ dX8_load_31
  · have hw := hw.2 c3
    refine lv_iload_n (pc := 11) C.1 C.2.1 dX8_load_11 rfl (lv_at hl 2 rfl) ?_
    refine cl_si (pc := 12) (As := [.int b2]) (rest := []) C h (m_X8_isHour l D t a b2 z _ hw) mw_X8_isHour lm_X8_71 md_X8_isHour ⟨by decide, by decide⟩ ⟨Nat.zero_le _, Nat.zero_le _⟩ hl.1 rfl (Nat.le_of_ble_eq_true rfl) dX8_load_12 (fun r5 z4 H locs hw h => ?_)
    rw [hw.1] at h
    have hw := hw.2
    refine lv_if_eq (tgt := 30) (pc := 15) C.1 C.2.1 dX8_load_15 (by decide) (fun c6 => ?_) (fun c6 => ?_)
    · have hw := hw.1 c6
      refine lv_iconst (v := -1) (pc := 30) C.1 C.2.1 dX8_load_30 (by decide) ?_
      exact rt_i (pc := 31) C hr hlk h ⟨rfl, hw⟩ dX8_load_31
    · have hw := hw.2 c6
      refine lv_aload_n (pc := 18) C.1 C.2.1 dX8_load_18 rfl (lv_at hl 0 rfl) ?_
      refine GX_X8_19_0 (pc := 19) C h dX8_load_19 ?_
      refine lv_iload_n (pc := 22) C.1 C.2.1 dX8_load_22 rfl (lv_at hl 1 rfl) ?_
      refine lv_iload_n (pc := 23) C.1 C.2.1 dX8_load_23 rfl (lv_at hl 2 rfl) ?_
      refine cl_vi (pc := 24) (As := [.int b1, .int b2]) (rest := []) C h (m_X0_draws l D t a b1 b2 z _ hw) mw_X0_draws lm_X8_219 md_X0_draws rcX_7 ⟨by decide, by decide⟩ ⟨Nat.zero_le _, Nat.zero_le _⟩ hl.1 rfl (Nat.le_of_ble_eq_true rfl) dX8_load_24 (fun r8 z7 H locs hw h => ?_)
      rw [hw.1] at h
      have hw := hw.2
      refine lv_goto (tgt := 31) (pc := 27) C.1 C.2.1 dX8_load_27 (by decide) ?_
      exact rt_i (pc := 31) C hr hlk h ⟨rfl, hw⟩ dX8_load_31

def wp_J7_fill_53178_6 (b2 : Int32) (z : St) (P : St → Prop) : Prop :=
  (∀ K3 : Int32 → Int32 → St → Prop, (∀ (v1 : Int32) (v2 : Int32) (z4 : St), (((v2 ≤ v1) → P z4) ∧ (¬ (v2 ≤ v1) → (vp_in v1 168 ∧ (∀ z6 : St, z6 = wR z4 6 (upd (gF z4 6) v1.toNatClampNeg b2) → (∀ x7 : Int32, x7 = v1 + (1) → K3 x7 v2 z6))))) → K3 v1 v2 z4) → K3 ((0 : Int32)) ((168 : Int32)) z)
set_option maxHeartbeats 4000000 in
set_option maxRecDepth 100000 in
theorem m_J7_fill_53178_6 (l : Launch) (D : va_G) (t : Ty3) (a : Nat → Nat) (b2 : Int32) (z : St) (P : St → Prop) (hw : wp_J7_fill_53178_6 b2 z P) : CtV l D t yJ7_fill_53178 cJ7_fill_53178 4 none 0 (wX t a) (wX t a z) [.ref (a 6), .int b2] P := by
  refine ctV_of (by decide) (Nat.le_of_ble_eq_true rfl) ?_
  intro p e s m args below meth c A ls C hr hlk h hl
  have hl : lv_has ls 4 [(0, .ref (a 6)), (1, .int b2)] := hl
  unfold wp_J7_fill_53178_6 at hw
  refine lv_iconst (v := 0) (pc := 0) C.1 C.2.1 dJ7_fill_53178_0 (by decide) ?_
  refine lv_istore_n (lv' := [(2, .int ((0 : Int32))), (0, .ref (a 6)), (1, .int b2)]) (pc := 1) C.1 C.2.1 dJ7_fill_53178_1 rfl hl (by decide) rfl (fun ls hl => ?_)
  refine lv_aload_n (pc := 2) C.1 C.2.1 dJ7_fill_53178_2 rfl (lv_at hl 1 rfl) ?_
  refine r_len (pc := 3) (n := 168) (q := 6) (v := 168) C h rfl (by decide) dJ7_fill_53178_3 ?_
  have hw := hw (fun (v1 : Int32) (v2 : Int32) (z4 : St) => ∀ (H : Heap) (locs : List Loc) (ls : Array Slot), wd D t A s (wX t a z4) H locs → lv_has ls 4 [(0, .ref (a 6)), (1, .int b2), (2, .int v1), (3, .int v2)] → W p l e (rmd 0) s m args below meth c H locs 0 0 (QV D t A (wX t a) P below args s) (F0 m 5 ls [])) (by
      intro v1 v2 z4 hw H locs ls h hl
      refine lv_iload_n (pc := 5) C.1 C.2.1 dJ7_fill_53178_5 rfl (lv_at hl 2 rfl) ?_
      refine lv_iload_n (pc := 6) C.1 C.2.1 dJ7_fill_53178_6 rfl (lv_at hl 3 rfl) ?_
      refine lv_icmp_ge (tgt := 20) (pc := 7) C.1 C.2.1 dJ7_fill_53178_7 (by decide) (fun c5 => ?_) (fun c5 => ?_)
      · have hw := hw.1 c5
        exact rt_v (pc := 20) C hr hlk h hw dJ7_fill_53178_20
      · have hw := hw.2 c5
        refine lv_aload_n (pc := 10) C.1 C.2.1 dJ7_fill_53178_10 rfl (lv_at hl 0 rfl) ?_
        refine lv_iload_n (pc := 11) C.1 C.2.1 dJ7_fill_53178_11 rfl (lv_at hl 2 rfl) ?_
        refine lv_iload_n (pc := 12) C.1 C.2.1 dJ7_fill_53178_12 rfl (lv_at hl 1 rfl) ?_
        refine stX_6 (pc := 13) C h hw.1 dJ7_fill_53178_13 (fun z6 ez6 H locs h => ?_)
        have hw := hw.2 z6 ez6
        obtain ⟨x7, ex7⟩ : ∃ y : Int32, y = v1 + (1) := ⟨_, rfl⟩
        have hw := hw x7 ex7
        refine lv_iinc (v := x7) (lv' := [(2, .int x7), (0, .ref (a 6)), (1, .int b2), (3, .int v2)]) (pc := 14) C.1 C.2.1 dJ7_fill_53178_14 hl (k := 2) rfl (by rw [ex7]; rfl) (by decide) rfl (fun ls hl => ?_)
        refine lv_goto (tgt := 5) (pc := 17) C.1 C.2.1 dJ7_fill_53178_17 (by decide) ?_
        exact hw _ _ _ h (lv_sub hl [1, 2, 0, 3] rfl))
  refine lv_istore_n (lv' := [(3, .int ((168 : Int32))), (2, .int ((0 : Int32))), (0, .ref (a 6)), (1, .int b2)]) (pc := 4) C.1 C.2.1 dJ7_fill_53178_4 rfl hl (by decide) rfl (fun ls hl => ?_)
  exact hw _ _ _ h (lv_sub hl [2, 3, 1, 0] rfl)

def wp_X3_lay_6 (b2 : Int32) (z : St) (P : St → Prop) : Prop :=
  (wp_J7_fill_53178_6 (gI z 106) z (fun z1 => (∀ K4 : Int32 → St → Prop, (∀ (v3 : Int32) (z5 : St), ((((gI z5 105) ≤ v3) → P z5) ∧ (¬ ((gI z5 105) ≤ v3) → (vp_in v3 400 ∧ (∀ K7 : St → Prop, (∀ (z8 : St), (∀ x9 : Int32, x9 = v3 + (1) → K4 x9 z8) → K7 z8) → (((b2 < (gF z5 4 v3.toNatClampNeg)) → K7 z5) ∧ (¬ (b2 < (gF z5 4 v3.toNatClampNeg)) → (vp_in v3 400 ∧ (vp_in v3 400 ∧ (vp_in (gF z5 2 v3.toNatClampNeg) 168 ∧ (∀ z11 : St, z11 = wR z5 6 (upd (gF z5 6) (gF z5 2 v3.toNatClampNeg).toNatClampNeg (gF z5 3 v3.toNatClampNeg)) → K7 z11)))))))))) → K4 v3 z5) → K4 ((0 : Int32)) z1)))
set_option maxHeartbeats 4000000 in
set_option maxRecDepth 100000 in
theorem m_X3_lay_6 (l : Launch) (D : va_G) (t : Ty3) (a : Nat → Nat) (b2 : Int32) (z : St) (P : St → Prop) (hw : wp_X3_lay_6 b2 z P) : CtV l D t yX3_lay cX3_lay 4 none 1 (wX t a) (wX t a z) [.ref (a 1), .ref (a 6), .int b2] P := by
  refine ctV_of (by decide) (Nat.le_of_ble_eq_true rfl) ?_
  intro p e s m args below meth c A ls C hr hlk h hl
  have hl : lv_has ls 4 [(0, .ref (a 1)), (1, .ref (a 6)), (2, .int b2)] := hl
  unfold wp_X3_lay_6 at hw
  refine lv_aload_n (pc := 0) C.1 C.2.1 dX3_lay_0 rfl (lv_at hl 1 rfl) ?_
  refine lv_aload_n (pc := 1) C.1 C.2.1 dX3_lay_1 rfl (lv_at hl 0 rfl) ?_
  refine GX_X3_31_1 (pc := 2) C h dX3_lay_2 ?_
  refine cl_sv (pc := 5) (As := [.ref (a 6), .int (gI z 106)]) (rest := []) C h (m_J7_fill_53178_6 l D t a (gI z 106) z _ hw) mw_J7_fill_53178 lm_X3_34 md_J7_fill_53178 ⟨by decide, by decide⟩ ⟨Nat.zero_le _, Nat.zero_le _⟩ hl.1 rfl (Nat.le_of_ble_eq_true rfl) dX3_lay_5 (fun z1 H locs hw h => ?_)
  refine lv_iconst (v := 0) (pc := 8) C.1 C.2.1 dX3_lay_8 (by decide) ?_
  have hw := hw (fun (v3 : Int32) (z5 : St) => ∀ (H : Heap) (locs : List Loc) (ls : Array Slot), wd D t A s (wX t a z5) H locs → lv_has ls 4 [(0, .ref (a 1)), (1, .ref (a 6)), (2, .int b2), (3, .int v3)] → W p l e (rmd 1) s m args below meth c H locs 0 0 (QV D t A (wX t a) P below args s) (F0 m 10 ls [])) (by
      intro v3 z5 hw H locs ls h hl
      refine lv_iload_n (pc := 10) C.1 C.2.1 dX3_lay_10 rfl (lv_at hl 3 rfl) ?_
      refine lv_aload_n (pc := 11) C.1 C.2.1 dX3_lay_11 rfl (lv_at hl 0 rfl) ?_
      refine GX_X3_27_1 (pc := 12) C h dX3_lay_12 ?_
      refine lv_icmp_ge (tgt := 48) (pc := 15) C.1 C.2.1 dX3_lay_15 (by decide) (fun c6 => ?_) (fun c6 => ?_)
      · have hw := hw.1 c6
        exact rt_v (pc := 48) C hr hlk h hw dX3_lay_48
      · have hw := hw.2 c6
        refine lv_aload_n (pc := 18) C.1 C.2.1 dX3_lay_18 rfl (lv_at hl 0 rfl) ?_
        refine GX_X3_18_1 (pc := 19) C h dX3_lay_19 ?_
        refine lv_iload_n (pc := 22) C.1 C.2.1 dX3_lay_22 rfl (lv_at hl 3 rfl) ?_
        refine ldX_4 (pc := 23) C h hw.1 dX3_lay_23 ?_
        have hw := hw.2
        refine lv_iload_n (pc := 24) C.1 C.2.1 dX3_lay_24 rfl (lv_at hl 2 rfl) ?_
        have hw := hw (fun (z8 : St) => ∀ (H : Heap) (locs : List Loc) (ls : Array Slot), wd D t A s (wX t a z8) H locs → lv_has ls 4 [(0, .ref (a 1)), (1, .ref (a 6)), (2, .int b2), (3, .int v3)] → W p l e (rmd 1) s m args below meth c H locs 0 0 (QV D t A (wX t a) P below args s) (F0 m 42 ls [])) (by
            intro z8 hw H locs ls h hl
            obtain ⟨x9, ex9⟩ : ∃ y : Int32, y = v3 + (1) := ⟨_, rfl⟩
            have hw := hw x9 ex9
            refine lv_iinc (v := x9) (lv' := [(3, .int x9), (0, .ref (a 1)), (1, .ref (a 6)), (2, .int b2)]) (pc := 42) C.1 C.2.1 dX3_lay_42 hl (k := 3) rfl (by rw [ex9]; rfl) (by decide) rfl (fun ls hl => ?_)
            refine lv_goto (tgt := 10) (pc := 45) C.1 C.2.1 dX3_lay_45 (by decide) ?_
            exact hw _ _ _ h (lv_sub hl [1, 2, 3, 0] rfl))
        refine lv_icmp_gt (tgt := 42) (pc := 25) C.1 C.2.1 dX3_lay_25 (by decide) (fun c10 => ?_) (fun c10 => ?_)
        · have hw := hw.1 c10
          exact hw _ _ _ h (lv_sub hl [0, 1, 2, 3] rfl)
        · have hw := hw.2 c10
          refine lv_aload_n (pc := 28) C.1 C.2.1 dX3_lay_28 rfl (lv_at hl 1 rfl) ?_
          refine lv_aload_n (pc := 29) C.1 C.2.1 dX3_lay_29 rfl (lv_at hl 0 rfl) ?_
          refine GX_X3_9_1 (pc := 30) C h dX3_lay_30 ?_
          refine lv_iload_n (pc := 33) C.1 C.2.1 dX3_lay_33 rfl (lv_at hl 3 rfl) ?_
          refine ldX_2 (pc := 34) C h hw.1 dX3_lay_34 ?_
          have hw := hw.2
          refine lv_aload_n (pc := 35) C.1 C.2.1 dX3_lay_35 rfl (lv_at hl 0 rfl) ?_
          refine GX_X3_15_1 (pc := 36) C h dX3_lay_36 ?_
          refine lv_iload_n (pc := 39) C.1 C.2.1 dX3_lay_39 rfl (lv_at hl 3 rfl) ?_
          refine ldX_3 (pc := 40) C h hw.1 dX3_lay_40 ?_
          have hw := hw.2
          refine stX_6 (pc := 41) C h hw.1 dX3_lay_41 (fun z11 ez11 H locs h => ?_)
          have hw := hw.2 z11 ez11
          exact hw _ _ _ h (lv_sub hl [0, 1, 2, 3] rfl))
  refine lv_istore_n (lv' := [(3, .int ((0 : Int32))), (0, .ref (a 1)), (1, .ref (a 6)), (2, .int b2)]) (pc := 9) C.1 C.2.1 dX3_lay_9 rfl hl (by decide) rfl (fun ls hl => ?_)
  exact hw _ _ _ h (lv_sub hl [1, 2, 3, 0] rfl)

def wp_X1_costFrom_6 (b1 : Int32) (b2 : Int32) (z : St) (P : Int64 → Prop) : Prop :=
  (∀ K3 : Int64 → Int32 → Prop, (∀ (v1 : Int64) (v2 : Int32), (vp_in b1 16 ∧ ((((gF z 17 b1.toNatClampNeg) ≤ v2) → P v1) ∧ (¬ ((gF z 17 b1.toNatClampNeg) ≤ v2) → (((((168 : Int32)) ≤ (b2 + v2)) → P v1) ∧ (¬ (((168 : Int32)) ≤ (b2 + v2)) → (vp_in ((b1 * ((4 : Int32))) + v2) 64 ∧ (vp_in (b2 + v2) 168 ∧ (∀ x6 : Int64, x6 = v1 + (Int32.toInt64 ((gF z 18 ((b1 * ((4 : Int32))) + v2).toNatClampNeg) * (gF z 6 (b2 + v2).toNatClampNeg))) → (∀ x7 : Int32, x7 = v2 + (1) → K3 x6 x7))))))))) → K3 v1 v2) → K3 ((0 : Int64)) ((0 : Int32)))
set_option maxHeartbeats 4000000 in
set_option maxRecDepth 100000 in
theorem m_X1_costFrom_6 (l : Launch) (D : va_G) (t : Ty3) (a : Nat → Nat) (b1 : Int32) (b2 : Int32) (z : St) (P : Int64 → Prop) (hw : wp_X1_costFrom_6 b1 b2 z P) : CtL l D t yX1_costFrom cX1_costFrom 7 (some .long) 0 (wX t a) (wX t a z) [.ref (a 13), .int b1, .int b2, .ref (a 6)] (fun rr zz => zz = z ∧ P rr) := by
  refine ctL_of (by decide) (Nat.le_of_ble_eq_true rfl) ?_
  intro p e s m args below meth c A ls C hr hlk h hl
  have hl : lv_has ls 7 [(0, .ref (a 13)), (1, .int b1), (2, .int b2), (3, .ref (a 6))] := hl
  unfold wp_X1_costFrom_6 at hw
  refine lv_lconst (v := 0) (pc := 0) C.1 C.2.1 dX1_costFrom_0 (by decide) ?_
  refine lv_lstore (lv' := [(4, .long ((0 : Int64))), (0, .ref (a 13)), (1, .int b1), (2, .int b2), (3, .ref (a 6))]) (pc := 1) C.1 C.2.1 dX1_costFrom_1 hl (by decide) rfl (fun ls hl => ?_)
  refine lv_iconst (v := 0) (pc := 3) C.1 C.2.1 dX1_costFrom_3 (by decide) ?_
  have hw := hw (fun (v1 : Int64) (v2 : Int32) => ∀ (H : Heap) (locs : List Loc) (ls : Array Slot), wd D t A s (wX t a z) H locs → lv_has ls 7 [(0, .ref (a 13)), (1, .int b1), (2, .int b2), (3, .ref (a 6)), (4, .long v1), (6, .int v2)] → W p l e (rmd 0) s m args below meth c H locs 0 0 (QL D t A (wX t a) (fun rr zz => zz = z ∧ P rr) below args s) (F0 m 6 ls [])) (by
      intro v1 v2 hw H locs ls h hl
      refine lv_iload (pc := 6) C.1 C.2.1 dX1_costFrom_6 (lv_at hl 5 rfl) ?_
      refine lv_aload_n (pc := 8) C.1 C.2.1 dX1_costFrom_8 rfl (lv_at hl 0 rfl) ?_
      refine GX_X1_21_13 (pc := 9) C h dX1_costFrom_9 ?_
      refine lv_iload_n (pc := 12) C.1 C.2.1 dX1_costFrom_12 rfl (lv_at hl 1 rfl) ?_
      refine ldX_17 (pc := 13) C h hw.1 dX1_costFrom_13 ?_
      have hw := hw.2
      refine lv_icmp_ge (tgt := 57) (pc := 14) C.1 C.2.1 dX1_costFrom_14 (by decide) (fun c4 => ?_) (fun c4 => ?_)
      · have hw := hw.1 c4
        refine lv_lload (pc := 57) C.1 C.2.1 dX1_costFrom_57 (lv_at hl 4 rfl) ?_
        exact rt_l (pc := 59) C hr hlk h ⟨rfl, hw⟩ dX1_costFrom_59
      · have hw := hw.2 c4
        refine lv_iload_n (pc := 17) C.1 C.2.1 dX1_costFrom_17 rfl (lv_at hl 2 rfl) ?_
        refine lv_iload (pc := 18) C.1 C.2.1 dX1_costFrom_18 (lv_at hl 5 rfl) ?_
        refine lv_iadd (pc := 20) C.1 C.2.1 dX1_costFrom_20 ?_
        refine lv_sipush (v := 168) (pc := 21) C.1 C.2.1 dX1_costFrom_21 (by decide) ?_
        refine lv_icmp_ge (tgt := 57) (pc := 24) C.1 C.2.1 dX1_costFrom_24 (by decide) (fun c5 => ?_) (fun c5 => ?_)
        · have hw := hw.1 c5
          refine lv_lload (pc := 57) C.1 C.2.1 dX1_costFrom_57 (lv_at hl 4 rfl) ?_
          exact rt_l (pc := 59) C hr hlk h ⟨rfl, hw⟩ dX1_costFrom_59
        · have hw := hw.2 c5
          refine lv_lload (pc := 27) C.1 C.2.1 dX1_costFrom_27 (lv_at hl 4 rfl) ?_
          refine lv_aload_n (pc := 29) C.1 C.2.1 dX1_costFrom_29 rfl (lv_at hl 0 rfl) ?_
          refine GX_X1_24_13 (pc := 30) C h dX1_costFrom_30 ?_
          refine lv_iload_n (pc := 33) C.1 C.2.1 dX1_costFrom_33 rfl (lv_at hl 1 rfl) ?_
          refine lv_iconst (v := 4) (pc := 34) C.1 C.2.1 dX1_costFrom_34 (by decide) ?_
          refine lv_imul (pc := 35) C.1 C.2.1 dX1_costFrom_35 ?_
          refine lv_iload (pc := 36) C.1 C.2.1 dX1_costFrom_36 (lv_at hl 5 rfl) ?_
          refine lv_iadd (pc := 38) C.1 C.2.1 dX1_costFrom_38 ?_
          refine ldX_18 (pc := 39) C h hw.1 dX1_costFrom_39 ?_
          have hw := hw.2
          refine lv_aload_n (pc := 40) C.1 C.2.1 dX1_costFrom_40 rfl (lv_at hl 3 rfl) ?_
          refine lv_iload_n (pc := 41) C.1 C.2.1 dX1_costFrom_41 rfl (lv_at hl 2 rfl) ?_
          refine lv_iload (pc := 42) C.1 C.2.1 dX1_costFrom_42 (lv_at hl 5 rfl) ?_
          refine lv_iadd (pc := 44) C.1 C.2.1 dX1_costFrom_44 ?_
          refine ldX_6 (pc := 45) C h hw.1 dX1_costFrom_45 ?_
          have hw := hw.2
          refine lv_imul (pc := 46) C.1 C.2.1 dX1_costFrom_46 ?_
          refine lv_i2l (pc := 47) C.1 C.2.1 dX1_costFrom_47 rfl ?_
          refine lv_ladd (pc := 48) C.1 C.2.1 dX1_costFrom_48 ?_
          refine lv_topl (fun x6 ex6 => ?_)
          have hw := hw x6 ex6
          refine lv_lstore (lv' := [(4, .long x6), (0, .ref (a 13)), (1, .int b1), (2, .int b2), (3, .ref (a 6)), (6, .int v2)]) (pc := 49) C.1 C.2.1 dX1_costFrom_49 hl (by decide) rfl (fun ls hl => ?_)
          obtain ⟨x7, ex7⟩ : ∃ y : Int32, y = v2 + (1) := ⟨_, rfl⟩
          have hw := hw x7 ex7
          refine lv_iinc (v := x7) (lv' := [(6, .int x7), (4, .long x6), (0, .ref (a 13)), (1, .int b1), (2, .int b2), (3, .ref (a 6))]) (pc := 51) C.1 C.2.1 dX1_costFrom_51 hl (k := 5) rfl (by rw [ex7]; rfl) (by decide) rfl (fun ls hl => ?_)
          refine lv_goto (tgt := 6) (pc := 54) C.1 C.2.1 dX1_costFrom_54 (by decide) ?_
          exact hw _ _ _ h (lv_sub hl [2, 3, 4, 5, 1, 0] rfl))
  refine lv_istore (lv' := [(6, .int ((0 : Int32))), (4, .long ((0 : Int64))), (0, .ref (a 13)), (1, .int b1), (2, .int b2), (3, .ref (a 6))]) (pc := 4) C.1 C.2.1 dX1_costFrom_4 hl (by decide) rfl (fun ls hl => ?_)
  exact hw _ _ _ h (lv_sub hl [2, 3, 4, 5, 1, 0] rfl)

def wp_X8_cost (b1 : Int32) (b2 : Int32) (z : St) (P : Int64 → St → Prop) : Prop :=
  (wp_X1_has b1 z (fun r2 => (((r2 = 0) → P ((0 : Int64)) z) ∧ (¬ (r2 = 0) → (vp_in b1 16 ∧ ((((gF z 19 b1.toNatClampNeg) = 0) → P ((0 : Int64)) z) ∧ (¬ ((gF z 19 b1.toNatClampNeg) = 0) → (wp_X8_isKnown b2 z (fun r6 => (((¬ r6 = 0) → (wp_X3_lay_6 b2 z (fun z8 => (vp_in b1 16 ∧ (wp_X1_costFrom_6 b1 (gF z8 20 b1.toNatClampNeg) z8 (fun r11 => P r11 z8)))))) ∧ (r6 = 0 → P ((0 : Int64)) z)))))))))))
set_option maxHeartbeats 4000000 in
set_option maxRecDepth 100000 in
theorem m_X8_cost (l : Launch) (D : va_G) (t : Ty3) (a : Nat → Nat) (b1 : Int32) (b2 : Int32) (z : St) (P : Int64 → St → Prop) (hw : wp_X8_cost b1 b2 z P) : CtL l D t yX8_cost cX8_cost 3 (some .long) 2 (wX t a) (wX t a z) [.ref (a 0), .int b1, .int b2] P := by
  refine ctL_of (by decide) (Nat.le_of_ble_eq_true rfl) ?_
  intro p e s m args below meth c A ls C hr hlk h hl
  have hl : lv_has ls 3 [(0, .ref (a 0)), (1, .int b1), (2, .int b2)] := hl
  unfold wp_X8_cost at hw
  refine lv_aload_n (pc := 0) C.1 C.2.1 dX8_cost_0 rfl (lv_at hl 0 rfl) ?_
  refine GX_X8_28_0 (pc := 1) C h dX8_cost_1 ?_
  refine lv_iload_n (pc := 4) C.1 C.2.1 dX8_cost_4 rfl (lv_at hl 1 rfl) ?_
  refine cl_vi (pc := 5) (As := [.int b1]) (rest := []) C h (m_X1_has l D t a b1 z _ hw) mw_X1_has lm_X8_143 md_X1_has rcX_13 ⟨by decide, by decide⟩ ⟨Nat.zero_le _, Nat.zero_le _⟩ hl.1 rfl (Nat.le_of_ble_eq_true rfl) dX8_cost_5 (fun r2 z1 H locs hw h => ?_)
  rw [hw.1] at h
  have hw := hw.2
  refine lv_if_eq (tgt := 30) (pc := 8) C.1 C.2.1 dX8_cost_8 (by decide) (fun c3 => ?_) (fun c3 => ?_)
  · have hw := hw.1 c3
    refine lv_lconst (v := 0) (pc := 30) C.1 C.2.1 dX8_cost_30 (by decide) ?_
    exact rt_l (pc := 31) C hr hlk h hw dX8_cost_31
  · have hw := hw.2 c3
    refine lv_aload_n (pc := 11) C.1 C.2.1 dX8_cost_11 rfl (lv_at hl 0 rfl) ?_
    refine GX_X8_28_0 (pc := 12) C h dX8_cost_12 ?_
    refine GX_X8_156_13 (pc := 15) C h dX8_cost_15 ?_
    refine lv_iload_n (pc := 18) C.1 C.2.1 dX8_cost_18 rfl (lv_at hl 1 rfl) ?_
    refine ldX_19 (pc := 19) C h hw.1 dX8_cost_19 ?_
    have hw := hw.2
    refine lv_if_eq (tgt := 30) (pc := 20) C.1 C.2.1 dX8_cost_20 (by decide) (fun c4 => ?_) (fun c4 => ?_)
    · have hw := hw.1 c4
      refine lv_lconst (v := 0) (pc := 30) C.1 C.2.1 dX8_cost_30 (by decide) ?_
      exact rt_l (pc := 31) C hr hlk h hw dX8_cost_31
    · have hw := hw.2 c4
      refine lv_iload_n (pc := 23) C.1 C.2.1 dX8_cost_23 rfl (lv_at hl 2 rfl) ?_
      refine cl_si (pc := 24) (As := [.int b2]) (rest := []) C h (m_X8_isKnown l D t a b2 z _ hw) mw_X8_isKnown lm_X8_78 md_X8_isKnown ⟨by decide, by decide⟩ ⟨Nat.zero_le _, Nat.zero_le _⟩ hl.1 rfl (Nat.le_of_ble_eq_true rfl) dX8_cost_24 (fun r6 z5 H locs hw h => ?_)
      rw [hw.1] at h
      have hw := hw.2
      refine lv_if_ne (tgt := 32) (pc := 27) C.1 C.2.1 dX8_cost_27 (by decide) (fun c7 => ?_) (fun c7 => ?_)
      · have hw := hw.1 c7
        refine lv_aload_n (pc := 32) C.1 C.2.1 dX8_cost_32 rfl (lv_at hl 0 rfl) ?_
        refine GX_X8_10_0 (pc := 33) C h dX8_cost_33 ?_
        refine lv_aload_n (pc := 36) C.1 C.2.1 dX8_cost_36 rfl (lv_at hl 0 rfl) ?_
        refine GX_X8_10_0 (pc := 37) C h dX8_cost_37 ?_
        refine GX_X8_222_1 (pc := 40) C h dX8_cost_40 ?_
        refine lv_iload_n (pc := 43) C.1 C.2.1 dX8_cost_43 rfl (lv_at hl 2 rfl) ?_
        refine cl_vv (pc := 44) (As := [.ref (a 6), .int b2]) (rest := []) C h (m_X3_lay_6 l D t a b2 z _ hw) mw_X3_lay lm_X8_105 md_X3_lay rcX_1 ⟨by decide, by decide⟩ ⟨Nat.zero_le _, Nat.zero_le _⟩ hl.1 rfl (Nat.le_of_ble_eq_true rfl) dX8_cost_44 (fun z8 H locs hw h => ?_)
        refine lv_aload_n (pc := 47) C.1 C.2.1 dX8_cost_47 rfl (lv_at hl 0 rfl) ?_
        refine GX_X8_28_0 (pc := 48) C h dX8_cost_48 ?_
        refine lv_iload_n (pc := 51) C.1 C.2.1 dX8_cost_51 rfl (lv_at hl 1 rfl) ?_
        refine lv_aload_n (pc := 52) C.1 C.2.1 dX8_cost_52 rfl (lv_at hl 0 rfl) ?_
        refine GX_X8_28_0 (pc := 53) C h dX8_cost_53 ?_
        refine GX_X8_159_13 (pc := 56) C h dX8_cost_56 ?_
        refine lv_iload_n (pc := 59) C.1 C.2.1 dX8_cost_59 rfl (lv_at hl 1 rfl) ?_
        refine ldX_20 (pc := 60) C h hw.1 dX8_cost_60 ?_
        have hw := hw.2
        refine lv_aload_n (pc := 61) C.1 C.2.1 dX8_cost_61 rfl (lv_at hl 0 rfl) ?_
        refine GX_X8_10_0 (pc := 62) C h dX8_cost_62 ?_
        refine GX_X8_222_1 (pc := 65) C h dX8_cost_65 ?_
        refine cl_vl (pc := 68) (As := [.int b1, .int (gF z8 20 b1.toNatClampNeg), .ref (a 6)]) (rest := []) C h (m_X1_costFrom_6 l D t a b1 (gF z8 20 b1.toNatClampNeg) z8 _ hw) mw_X1_costFrom lm_X8_225 md_X1_costFrom rcX_13 ⟨by decide, by decide⟩ ⟨Nat.zero_le _, Nat.zero_le _⟩ hl.1 rfl (Nat.le_of_ble_eq_true rfl) dX8_cost_68 (fun r11 z10 H locs hw h => ?_)
        rw [hw.1] at h
        have hw := hw.2
        exact rt_l (pc := 71) C hr hlk h hw dX8_cost_71
      · have hw := hw.2 c7
        refine lv_lconst (v := 0) (pc := 30) C.1 C.2.1 dX8_cost_30 (by decide) ?_
        exact rt_l (pc := 31) C hr hlk h hw dX8_cost_31

def wp_X8_saved (b1 : Int32) (z : St) (P : Int64 → St → Prop) : Prop :=
  (wp_X8_isKnown b1 z (fun r2 => (((¬ r2 = 0) → (wp_X3_lay_6 b1 z (fun z4 => (∀ K8 : Int64 → Int32 → Prop, (∀ (v6 : Int64) (v7 : Int32), ((((gI z4 1308) ≤ v7) → P v6 z4) ∧ (¬ ((gI z4 1308) ≤ v7) → (vp_in v7 16 ∧ (∀ K11 : Int64 → Prop, (∀ (v10 : Int64), (∀ x12 : Int32, x12 = v7 + (1) → K8 v10 x12) → K11 v10) → (((¬ (gF z4 19 v7.toNatClampNeg) = ((2 : Int32))) → K11 v6) ∧ ((gF z4 19 v7.toNatClampNeg) = ((2 : Int32)) → (vp_in v7 16 ∧ (wp_X1_costFrom_6 v7 (gF z4 15 v7.toNatClampNeg) z4 (fun r15 => (∀ x16 : Int64, x16 = v6 + r15 → (vp_in v7 16 ∧ (wp_X1_costFrom_6 v7 (gF z4 20 v7.toNatClampNeg) z4 (fun r18 => (∀ x19 : Int64, x19 = x16 - r18 → K11 x19)))))))))))))) → K8 v6 v7) → K8 ((0 : Int64)) ((0 : Int32)))))) ∧ (r2 = 0 → P ((0 : Int64)) z))))
set_option maxHeartbeats 4000000 in
set_option maxRecDepth 100000 in
theorem m_X8_saved (l : Launch) (D : va_G) (t : Ty3) (a : Nat → Nat) (b1 : Int32) (z : St) (P : Int64 → St → Prop) (hw : wp_X8_saved b1 z P) : CtL l D t yX8_saved cX8_saved 5 (some .long) 2 (wX t a) (wX t a z) [.ref (a 0), .int b1] P := by
  refine ctL_of (by decide) (Nat.le_of_ble_eq_true rfl) ?_
  intro p e s m args below meth c A ls C hr hlk h hl
  have hl : lv_has ls 5 [(0, .ref (a 0)), (1, .int b1)] := hl
  unfold wp_X8_saved at hw
  refine lv_iload_n (pc := 0) C.1 C.2.1 dX8_saved_0 rfl (lv_at hl 1 rfl) ?_
  refine cl_si (pc := 1) (As := [.int b1]) (rest := []) C h (m_X8_isKnown l D t a b1 z _ hw) mw_X8_isKnown lm_X8_78 md_X8_isKnown ⟨by decide, by decide⟩ ⟨Nat.zero_le _, Nat.zero_le _⟩ hl.1 rfl (Nat.le_of_ble_eq_true rfl) dX8_saved_1 (fun r2 z1 H locs hw h => ?_)
  rw [hw.1] at h
  have hw := hw.2
  refine lv_if_ne (tgt := 9) (pc := 4) C.1 C.2.1 dX8_saved_4 (by decide) (fun c3 => ?_) (fun c3 => ?_)
  · have hw := hw.1 c3
    refine lv_aload_n (pc := 9) C.1 C.2.1 dX8_saved_9 rfl (lv_at hl 0 rfl) ?_
    refine GX_X8_10_0 (pc := 10) C h dX8_saved_10 ?_
    refine lv_aload_n (pc := 13) C.1 C.2.1 dX8_saved_13 rfl (lv_at hl 0 rfl) ?_
    refine GX_X8_10_0 (pc := 14) C h dX8_saved_14 ?_
    refine GX_X8_222_1 (pc := 17) C h dX8_saved_17 ?_
    refine lv_iload_n (pc := 20) C.1 C.2.1 dX8_saved_20 rfl (lv_at hl 1 rfl) ?_
    refine cl_vv (pc := 21) (As := [.ref (a 6), .int b1]) (rest := []) C h (m_X3_lay_6 l D t a b1 z _ hw) mw_X3_lay lm_X8_105 md_X3_lay rcX_1 ⟨by decide, by decide⟩ ⟨Nat.zero_le _, Nat.zero_le _⟩ hl.1 rfl (Nat.le_of_ble_eq_true rfl) dX8_saved_21 (fun z4 H locs hw h => ?_)
    refine lv_lconst (v := 0) (pc := 24) C.1 C.2.1 dX8_saved_24 (by decide) ?_
    refine lv_lstore_n (lv' := [(2, .long ((0 : Int64))), (0, .ref (a 0)), (1, .int b1)]) (pc := 25) C.1 C.2.1 dX8_saved_25 rfl hl (by decide) rfl (fun ls hl => ?_)
    refine lv_iconst (v := 0) (pc := 26) C.1 C.2.1 dX8_saved_26 (by decide) ?_
    have hw := hw (fun (v6 : Int64) (v7 : Int32) => ∀ (H : Heap) (locs : List Loc) (ls : Array Slot), wd D t A s (wX t a z4) H locs → lv_has ls 5 [(0, .ref (a 0)), (2, .long v6), (4, .int v7)] → W p l e (rmd 2) s m args below meth c H locs 0 0 (QL D t A (wX t a) P below args s) (F0 m 29 ls [])) (by
        intro v6 v7 hw H locs ls h hl
        refine lv_iload (pc := 29) C.1 C.2.1 dX8_saved_29 (lv_at hl 2 rfl) ?_
        refine lv_aload_n (pc := 31) C.1 C.2.1 dX8_saved_31 rfl (lv_at hl 0 rfl) ?_
        refine GX_X8_28_0 (pc := 32) C h dX8_saved_32 ?_
        refine GX_X8_134_13 (pc := 35) C h dX8_saved_35 ?_
        refine lv_icmp_ge (tgt := 119) (pc := 38) C.1 C.2.1 dX8_saved_38 (by decide) (fun c9 => ?_) (fun c9 => ?_)
        · have hw := hw.1 c9
          refine lv_lload_n (pc := 119) C.1 C.2.1 dX8_saved_119 rfl (lv_at hl 1 rfl) ?_
          exact rt_l (pc := 120) C hr hlk h hw dX8_saved_120
        · have hw := hw.2 c9
          refine lv_aload_n (pc := 41) C.1 C.2.1 dX8_saved_41 rfl (lv_at hl 0 rfl) ?_
          refine GX_X8_28_0 (pc := 42) C h dX8_saved_42 ?_
          refine GX_X8_156_13 (pc := 45) C h dX8_saved_45 ?_
          refine lv_iload (pc := 48) C.1 C.2.1 dX8_saved_48 (lv_at hl 2 rfl) ?_
          refine ldX_19 (pc := 50) C h hw.1 dX8_saved_50 ?_
          have hw := hw.2
          refine lv_iconst (v := 2) (pc := 51) C.1 C.2.1 dX8_saved_51 (by decide) ?_
          have hw := hw (fun (v10 : Int64) => ∀ (H : Heap) (locs : List Loc) (ls : Array Slot), wd D t A s (wX t a z4) H locs → lv_has ls 5 [(0, .ref (a 0)), (2, .long v10), (4, .int v7)] → W p l e (rmd 2) s m args below meth c H locs 0 0 (QL D t A (wX t a) P below args s) (F0 m 113 ls [])) (by
              intro v10 hw H locs ls h hl
              obtain ⟨x12, ex12⟩ : ∃ y : Int32, y = v7 + (1) := ⟨_, rfl⟩
              have hw := hw x12 ex12
              refine lv_iinc (v := x12) (lv' := [(4, .int x12), (0, .ref (a 0)), (2, .long v10)]) (pc := 113) C.1 C.2.1 dX8_saved_113 hl (k := 2) rfl (by rw [ex12]; rfl) (by decide) rfl (fun ls hl => ?_)
              refine lv_goto (tgt := 29) (pc := 116) C.1 C.2.1 dX8_saved_116 (by decide) ?_
              exact hw _ _ _ h (lv_sub hl [1, 2, 0] rfl))
          refine lv_icmp_ne (tgt := 113) (pc := 52) C.1 C.2.1 dX8_saved_52 (by decide) (fun c13 => ?_) (fun c13 => ?_)
          · have hw := hw.1 c13
            exact hw _ _ _ h (lv_sub hl [0, 1, 2] rfl)
          · have hw := hw.2 c13
            refine lv_lload_n (pc := 55) C.1 C.2.1 dX8_saved_55 rfl (lv_at hl 1 rfl) ?_
            refine lv_aload_n (pc := 56) C.1 C.2.1 dX8_saved_56 rfl (lv_at hl 0 rfl) ?_
            refine GX_X8_28_0 (pc := 57) C h dX8_saved_57 ?_
            refine lv_iload (pc := 60) C.1 C.2.1 dX8_saved_60 (lv_at hl 2 rfl) ?_
            refine lv_aload_n (pc := 62) C.1 C.2.1 dX8_saved_62 rfl (lv_at hl 0 rfl) ?_
            refine GX_X8_28_0 (pc := 63) C h dX8_saved_63 ?_
            refine GX_X8_147_13 (pc := 66) C h dX8_saved_66 ?_
            refine lv_iload (pc := 69) C.1 C.2.1 dX8_saved_69 (lv_at hl 2 rfl) ?_
            refine ldX_15 (pc := 71) C h hw.1 dX8_saved_71 ?_
            have hw := hw.2
            refine lv_aload_n (pc := 72) C.1 C.2.1 dX8_saved_72 rfl (lv_at hl 0 rfl) ?_
            refine GX_X8_10_0 (pc := 73) C h dX8_saved_73 ?_
            refine GX_X8_222_1 (pc := 76) C h dX8_saved_76 ?_
            refine cl_vl (pc := 79) (As := [.int v7, .int (gF z4 15 v7.toNatClampNeg), .ref (a 6)]) (rest := [.long v6]) C h (m_X1_costFrom_6 l D t a v7 (gF z4 15 v7.toNatClampNeg) z4 _ hw) mw_X1_costFrom lm_X8_225 md_X1_costFrom rcX_13 ⟨by decide, by decide⟩ ⟨Nat.zero_le _, Nat.zero_le _⟩ hl.1 rfl (Nat.le_of_ble_eq_true rfl) dX8_saved_79 (fun r15 z14 H locs hw h => ?_)
            rw [hw.1] at h
            have hw := hw.2
            refine lv_ladd (pc := 82) C.1 C.2.1 dX8_saved_82 ?_
            refine lv_topl (fun x16 ex16 => ?_)
            have hw := hw x16 ex16
            refine lv_lstore_n (lv' := [(2, .long x16), (0, .ref (a 0)), (4, .int v7)]) (pc := 83) C.1 C.2.1 dX8_saved_83 rfl hl (by decide) rfl (fun ls hl => ?_)
            refine lv_lload_n (pc := 84) C.1 C.2.1 dX8_saved_84 rfl (lv_at hl 0 rfl) ?_
            refine lv_aload_n (pc := 85) C.1 C.2.1 dX8_saved_85 rfl (lv_at hl 1 rfl) ?_
            refine GX_X8_28_0 (pc := 86) C h dX8_saved_86 ?_
            refine lv_iload (pc := 89) C.1 C.2.1 dX8_saved_89 (lv_at hl 2 rfl) ?_
            refine lv_aload_n (pc := 91) C.1 C.2.1 dX8_saved_91 rfl (lv_at hl 1 rfl) ?_
            refine GX_X8_28_0 (pc := 92) C h dX8_saved_92 ?_
            refine GX_X8_159_13 (pc := 95) C h dX8_saved_95 ?_
            refine lv_iload (pc := 98) C.1 C.2.1 dX8_saved_98 (lv_at hl 2 rfl) ?_
            refine ldX_20 (pc := 100) C h hw.1 dX8_saved_100 ?_
            have hw := hw.2
            refine lv_aload_n (pc := 101) C.1 C.2.1 dX8_saved_101 rfl (lv_at hl 1 rfl) ?_
            refine GX_X8_10_0 (pc := 102) C h dX8_saved_102 ?_
            refine GX_X8_222_1 (pc := 105) C h dX8_saved_105 ?_
            refine cl_vl (pc := 108) (As := [.int v7, .int (gF z4 20 v7.toNatClampNeg), .ref (a 6)]) (rest := [.long x16]) C h (m_X1_costFrom_6 l D t a v7 (gF z4 20 v7.toNatClampNeg) z4 _ hw) mw_X1_costFrom lm_X8_225 md_X1_costFrom rcX_13 ⟨by decide, by decide⟩ ⟨Nat.zero_le _, Nat.zero_le _⟩ hl.1 rfl (Nat.le_of_ble_eq_true rfl) dX8_saved_108 (fun r18 z17 H locs hw h => ?_)
            rw [hw.1] at h
            have hw := hw.2
            refine lv_lsub (pc := 111) C.1 C.2.1 dX8_saved_111 ?_
            refine lv_topl (fun x19 ex19 => ?_)
            have hw := hw x19 ex19
            refine lv_lstore_n (lv' := [(2, .long x19), (0, .ref (a 0)), (4, .int v7)]) (pc := 112) C.1 C.2.1 dX8_saved_112 rfl hl (by decide) rfl (fun ls hl => ?_)
            exact hw _ _ _ h (lv_sub hl [1, 0, 2] rfl))
    refine lv_istore (lv' := [(4, .int ((0 : Int32))), (2, .long ((0 : Int64))), (0, .ref (a 0)), (1, .int b1)]) (pc := 27) C.1 C.2.1 dX8_saved_27 hl (by decide) rfl (fun ls hl => ?_)
    exact hw _ _ _ h (lv_sub hl [2, 1, 0] rfl)
  · have hw := hw.2 c3
    refine lv_lconst (v := 0) (pc := 7) C.1 C.2.1 dX8_saved_7 (by decide) ?_
    exact rt_l (pc := 8) C hr hlk h hw dX8_saved_8

def wp_X7_add (b1 : Int32) (b2 : Int32) (b3 : Int32) (z : St) (P : Int32 → St → Prop) : Prop :=
  (vp_in (gI z 3909) 6 ∧ (∀ z1 : St, z1 = wR z 40 (upd (gF z 40) (gI z 3909).toNatClampNeg b1) → (vp_in (gI z1 3909) 6 ∧ (∀ z2 : St, z2 = wR z1 41 (upd (gF z1 41) (gI z1 3909).toNatClampNeg b2) → (vp_in (gI z2 3909) 6 ∧ (∀ z3 : St, z3 = wR z2 42 (upd (gF z2 42) (gI z2 3909).toNatClampNeg b3) → (∀ z4 : St, z4 = wI z3 3909 ((gI z3 3909) + ((1 : Int32))) → P ((gI z4 3909) - ((1 : Int32))) z4)))))))
set_option maxHeartbeats 4000000 in
set_option maxRecDepth 100000 in
theorem m_X7_add (l : Launch) (D : va_G) (t : Ty3) (a : Nat → Nat) (b1 : Int32) (b2 : Int32) (b3 : Int32) (z : St) (P : Int32 → St → Prop) (hw : wp_X7_add b1 b2 b3 z P) : CtI l D t yX7_add cX7_add 4 (some .int) 0 (wX t a) (wX t a z) [.ref (a 39), .int b1, .int b2, .int b3] P := by
  refine ctI_of (by decide) (Nat.le_of_ble_eq_true rfl) ?_
  intro p e s m args below meth c A ls C hr hlk h hl
  have hl : lv_has ls 4 [(0, .ref (a 39)), (1, .int b1), (2, .int b2), (3, .int b3)] := hl
  unfold wp_X7_add at hw
  refine lv_aload_n (pc := 0) C.1 C.2.1 dX7_add_0 rfl (lv_at hl 0 rfl) ?_
  refine GX_X7_9_39 (pc := 1) C h dX7_add_1 ?_
  refine lv_aload_n (pc := 4) C.1 C.2.1 dX7_add_4 rfl (lv_at hl 0 rfl) ?_
  refine GX_X7_57_39 (pc := 5) C h dX7_add_5 ?_
  refine lv_iload_n (pc := 8) C.1 C.2.1 dX7_add_8 rfl (lv_at hl 1 rfl) ?_
  refine stX_40 (pc := 9) C h hw.1 dX7_add_9 (fun z1 ez1 H locs h => ?_)
  have hw := hw.2 z1 ez1
  refine lv_aload_n (pc := 10) C.1 C.2.1 dX7_add_10 rfl (lv_at hl 0 rfl) ?_
  refine GX_X7_15_39 (pc := 11) C h dX7_add_11 ?_
  refine lv_aload_n (pc := 14) C.1 C.2.1 dX7_add_14 rfl (lv_at hl 0 rfl) ?_
  refine GX_X7_57_39 (pc := 15) C h dX7_add_15 ?_
  refine lv_iload_n (pc := 18) C.1 C.2.1 dX7_add_18 rfl (lv_at hl 2 rfl) ?_
  refine stX_41 (pc := 19) C h hw.1 dX7_add_19 (fun z2 ez2 H locs h => ?_)
  have hw := hw.2 z2 ez2
  refine lv_aload_n (pc := 20) C.1 C.2.1 dX7_add_20 rfl (lv_at hl 0 rfl) ?_
  refine GX_X7_18_39 (pc := 21) C h dX7_add_21 ?_
  refine lv_aload_n (pc := 24) C.1 C.2.1 dX7_add_24 rfl (lv_at hl 0 rfl) ?_
  refine GX_X7_57_39 (pc := 25) C h dX7_add_25 ?_
  refine lv_iload_n (pc := 28) C.1 C.2.1 dX7_add_28 rfl (lv_at hl 3 rfl) ?_
  refine stX_42 (pc := 29) C h hw.1 dX7_add_29 (fun z3 ez3 H locs h => ?_)
  have hw := hw.2 z3 ez3
  refine lv_aload_n (pc := 30) C.1 C.2.1 dX7_add_30 rfl (lv_at hl 0 rfl) ?_
  refine lv_dup (pc := 31) C.1 C.2.1 dX7_add_31 rfl ?_
  refine GX_X7_57_39 (pc := 32) C h dX7_add_32 ?_
  refine lv_iconst (v := 1) (pc := 35) C.1 C.2.1 dX7_add_35 (by decide) ?_
  refine lv_iadd (pc := 36) C.1 C.2.1 dX7_add_36 ?_
  refine PX_X7_57_39 (pc := 37) C h dX7_add_37 (fun z4 ez4 H locs h => ?_)
  have hw := hw z4 ez4
  refine lv_aload_n (pc := 40) C.1 C.2.1 dX7_add_40 rfl (lv_at hl 0 rfl) ?_
  refine GX_X7_57_39 (pc := 41) C h dX7_add_41 ?_
  refine lv_iconst (v := 1) (pc := 44) C.1 C.2.1 dX7_add_44 (by decide) ?_
  refine lv_isub (pc := 45) C.1 C.2.1 dX7_add_45 ?_
  exact rt_i (pc := 46) C hr hlk h hw dX7_add_46

def wp_X7_setFlow (b1 : Int32) (b2 : Int32) (b3 : Int32) (b4 : Int32) (b5 : Int32) (z : St) (P : St → Prop) : Prop :=
  (vp_in b1 6 ∧ (∀ z1 : St, z1 = wR z 43 (upd (gF z 43) b1.toNatClampNeg b2) → (vp_in b1 6 ∧ (∀ z2 : St, z2 = wR z1 44 (upd (gF z1 44) b1.toNatClampNeg b3) → (vp_in b1 6 ∧ (∀ z3 : St, z3 = wR z2 45 (upd (gF z2 45) b1.toNatClampNeg b4) → (vp_in b1 6 ∧ (∀ z4 : St, z4 = wR z3 46 (upd (gF z3 46) b1.toNatClampNeg b5) → P z4))))))))
set_option maxHeartbeats 4000000 in
set_option maxRecDepth 100000 in
theorem m_X7_setFlow (l : Launch) (D : va_G) (t : Ty3) (a : Nat → Nat) (b1 : Int32) (b2 : Int32) (b3 : Int32) (b4 : Int32) (b5 : Int32) (z : St) (P : St → Prop) (hw : wp_X7_setFlow b1 b2 b3 b4 b5 z P) : CtV l D t yX7_setFlow cX7_setFlow 6 none 0 (wX t a) (wX t a z) [.ref (a 39), .int b1, .int b2, .int b3, .int b4, .int b5] P := by
  refine ctV_of (by decide) (Nat.le_of_ble_eq_true rfl) ?_
  intro p e s m args below meth c A ls C hr hlk h hl
  have hl : lv_has ls 6 [(0, .ref (a 39)), (1, .int b1), (2, .int b2), (3, .int b3), (4, .int b4), (5, .int b5)] := hl
  unfold wp_X7_setFlow at hw
  refine lv_aload_n (pc := 0) C.1 C.2.1 dX7_setFlow_0 rfl (lv_at hl 0 rfl) ?_
  refine GX_X7_21_39 (pc := 1) C h dX7_setFlow_1 ?_
  refine lv_iload_n (pc := 4) C.1 C.2.1 dX7_setFlow_4 rfl (lv_at hl 1 rfl) ?_
  refine lv_iload_n (pc := 5) C.1 C.2.1 dX7_setFlow_5 rfl (lv_at hl 2 rfl) ?_
  refine stX_43 (pc := 6) C h hw.1 dX7_setFlow_6 (fun z1 ez1 H locs h => ?_)
  have hw := hw.2 z1 ez1
  refine lv_aload_n (pc := 7) C.1 C.2.1 dX7_setFlow_7 rfl (lv_at hl 0 rfl) ?_
  refine GX_X7_24_39 (pc := 8) C h dX7_setFlow_8 ?_
  refine lv_iload_n (pc := 11) C.1 C.2.1 dX7_setFlow_11 rfl (lv_at hl 1 rfl) ?_
  refine lv_iload_n (pc := 12) C.1 C.2.1 dX7_setFlow_12 rfl (lv_at hl 3 rfl) ?_
  refine stX_44 (pc := 13) C h hw.1 dX7_setFlow_13 (fun z2 ez2 H locs h => ?_)
  have hw := hw.2 z2 ez2
  refine lv_aload_n (pc := 14) C.1 C.2.1 dX7_setFlow_14 rfl (lv_at hl 0 rfl) ?_
  refine GX_X7_27_39 (pc := 15) C h dX7_setFlow_15 ?_
  refine lv_iload_n (pc := 18) C.1 C.2.1 dX7_setFlow_18 rfl (lv_at hl 1 rfl) ?_
  refine lv_iload (pc := 19) C.1 C.2.1 dX7_setFlow_19 (lv_at hl 4 rfl) ?_
  refine stX_45 (pc := 21) C h hw.1 dX7_setFlow_21 (fun z3 ez3 H locs h => ?_)
  have hw := hw.2 z3 ez3
  refine lv_aload_n (pc := 22) C.1 C.2.1 dX7_setFlow_22 rfl (lv_at hl 0 rfl) ?_
  refine GX_X7_30_39 (pc := 23) C h dX7_setFlow_23 ?_
  refine lv_iload_n (pc := 26) C.1 C.2.1 dX7_setFlow_26 rfl (lv_at hl 1 rfl) ?_
  refine lv_iload (pc := 27) C.1 C.2.1 dX7_setFlow_27 (lv_at hl 5 rfl) ?_
  refine stX_46 (pc := 29) C h hw.1 dX7_setFlow_29 (fun z4 ez4 H locs h => ?_)
  have hw := hw.2 z4 ez4
  exact rt_v (pc := 30) C hr hlk h hw dX7_setFlow_30

def wp_X8_store (b1 : Int32) (b2 : Int32) (b3 : Int32) (b4 : Int32) (b5 : Int32) (b6 : Int32) (b7 : Int32) (z : St) (P : Int32 → St → Prop) : Prop :=
  (∀ K1 : Prop, ((wp_X8_refuse ((-1 : Int32)) z (fun r3 z2 => P r3 z2)) → K1) → (((b2 < ((1 : Int32))) → K1) ∧ (¬ (b2 < ((1 : Int32))) → (((((40 : Int32)) < b2) → K1) ∧ (¬ (((40 : Int32)) < b2) → (wp_X8_isWithin b3 b2 z (fun r7 => (((r7 = 0) → K1) ∧ (¬ (r7 = 0) → (((b7 < ((1 : Int32))) → K1) ∧ (¬ (b7 < ((1 : Int32))) → (((b7 ≤ ((1000 : Int32))) → (wp_X8_isWithin b4 ((10 : Int32)) z (fun r12 => (∀ K13 : Prop, ((wp_X8_refuse ((-1 : Int32)) z (fun r15 z14 => P r15 z14)) → K13) → (((r12 = 0) → K13) ∧ (¬ (r12 = 0) → (wp_X8_isWithin b5 ((10 : Int32)) z (fun r18 => (((r18 = 0) → K13) ∧ (¬ (r18 = 0) → (wp_X8_isWithin b6 ((3 : Int32)) z (fun r21 => (((¬ r21 = 0) → (wp_X0_has b1 z (fun r24 => (((¬ r24 = 0) → ((((gI z 3909) < ((6 : Int32))) → (wp_X7_add b1 b2 b3 z (fun r28 z27 => (wp_X7_setFlow r28 b4 b5 b6 b7 z27 (fun z29 => (wp_X8_accept r28 z29 (fun r32 z31 => P r32 z31))))))) ∧ (¬ ((gI z 3909) < ((6 : Int32))) → (wp_X8_refuse ((-5 : Int32)) z (fun r34 z33 => P r34 z33))))) ∧ (r24 = 0 → (wp_X8_refuse ((-2 : Int32)) z (fun r36 z35 => P r36 z35))))))) ∧ (r21 = 0 → K13)))))))))))))) ∧ (¬ (b7 ≤ ((1000 : Int32))) → K1)))))))))))))
set_option maxHeartbeats 4000000 in
set_option maxRecDepth 100000 in
theorem m_X8_store (l : Launch) (D : va_G) (t : Ty3) (a : Nat → Nat) (b1 : Int32) (b2 : Int32) (b3 : Int32) (b4 : Int32) (b5 : Int32) (b6 : Int32) (b7 : Int32) (z : St) (P : Int32 → St → Prop) (hw : wp_X8_store b1 b2 b3 b4 b5 b6 b7 z P) : CtI l D t yX8_store cX8_store 9 (some .int) 1 (wX t a) (wX t a z) [.ref (a 0), .int b1, .int b2, .int b3, .int b4, .int b5, .int b6, .int b7] P := by
  refine ctI_of (by decide) (Nat.le_of_ble_eq_true rfl) ?_
  intro p e s m args below meth c A ls C hr hlk h hl
  have hl : lv_has ls 9 [(0, .ref (a 0)), (1, .int b1), (2, .int b2), (3, .int b3), (4, .int b4), (5, .int b5), (6, .int b6), (7, .int b7)] := hl
  unfold wp_X8_store at hw
  refine lv_iload_n (pc := 0) C.1 C.2.1 dX8_store_0 rfl (lv_at hl 2 rfl) ?_
  refine lv_iconst (v := 1) (pc := 1) C.1 C.2.1 dX8_store_1 (by decide) ?_
  have hw := hw (∀ (H : Heap) (locs : List Loc) (ls : Array Slot), wd D t A s (wX t a z) H locs → lv_has ls 9 [(0, .ref (a 0))] → W p l e (rmd 1) s m args below meth c H locs 0 0 (QI D t A (wX t a) P below args s) (F0 m 33 ls [])) (by
      intro hw H locs ls h hl
      refine lv_aload_n (pc := 33) C.1 C.2.1 dX8_store_33 rfl (lv_at hl 0 rfl) ?_
      refine lv_iconst (v := -1) (pc := 34) C.1 C.2.1 dX8_store_34 (by decide) ?_
      refine cl_vi (pc := 35) (As := [.int ((-1 : Int32))]) (rest := []) C h (m_X8_refuse l D t a ((-1 : Int32)) z _ hw) mw_X8_refuse lm_X8_81 md_X8_refuse rcX_0 ⟨by decide, by decide⟩ ⟨Nat.zero_le _, Nat.zero_le _⟩ hl.1 rfl (Nat.le_of_ble_eq_true rfl) dX8_store_35 (fun r3 z2 H locs hw h => ?_)
      exact rt_i (pc := 38) C hr hlk h hw dX8_store_38)
  refine lv_icmp_lt (tgt := 33) (pc := 2) C.1 C.2.1 dX8_store_2 (by decide) (fun c4 => ?_) (fun c4 => ?_)
  · have hw := hw.1 c4
    exact hw _ _ _ h (lv_sub hl [0] rfl)
  · have hw := hw.2 c4
    refine lv_iload_n (pc := 5) C.1 C.2.1 dX8_store_5 rfl (lv_at hl 2 rfl) ?_
    refine lv_bipush (v := 40) (pc := 6) C.1 C.2.1 dX8_store_6 (by decide) ?_
    refine lv_icmp_gt (tgt := 33) (pc := 8) C.1 C.2.1 dX8_store_8 (by decide) (fun c5 => ?_) (fun c5 => ?_)
    · have hw := hw.1 c5
      exact hw _ _ _ h (lv_sub hl [0] rfl)
    · have hw := hw.2 c5
      refine lv_iload_n (pc := 11) C.1 C.2.1 dX8_store_11 rfl (lv_at hl 3 rfl) ?_
      refine lv_iload_n (pc := 12) C.1 C.2.1 dX8_store_12 rfl (lv_at hl 2 rfl) ?_
      refine cl_si (pc := 13) (As := [.int b3, .int b2]) (rest := []) C h (m_X8_isWithin l D t a b3 b2 z _ hw) mw_X8_isWithin lm_X8_113 md_X8_isWithin ⟨by decide, by decide⟩ ⟨Nat.zero_le _, Nat.zero_le _⟩ hl.1 rfl (Nat.le_of_ble_eq_true rfl) dX8_store_13 (fun r7 z6 H locs hw h => ?_)
      rw [hw.1] at h
      have hw := hw.2
      refine lv_if_eq (tgt := 33) (pc := 16) C.1 C.2.1 dX8_store_16 (by decide) (fun c8 => ?_) (fun c8 => ?_)
      · have hw := hw.1 c8
        exact hw _ _ _ h (lv_sub hl [0] rfl)
      · have hw := hw.2 c8
        refine lv_iload (pc := 19) C.1 C.2.1 dX8_store_19 (lv_at hl 7 rfl) ?_
        refine lv_iconst (v := 1) (pc := 21) C.1 C.2.1 dX8_store_21 (by decide) ?_
        refine lv_icmp_lt (tgt := 33) (pc := 22) C.1 C.2.1 dX8_store_22 (by decide) (fun c9 => ?_) (fun c9 => ?_)
        · have hw := hw.1 c9
          exact hw _ _ _ h (lv_sub hl [0] rfl)
        · have hw := hw.2 c9
          refine lv_iload (pc := 25) C.1 C.2.1 dX8_store_25 (lv_at hl 7 rfl) ?_
          refine lv_sipush (v := 1000) (pc := 27) C.1 C.2.1 dX8_store_27 (by decide) ?_
          refine lv_icmp_le (tgt := 39) (pc := 30) C.1 C.2.1 dX8_store_30 (by decide) (fun c10 => ?_) (fun c10 => ?_)
          · have hw := hw.1 c10
            refine lv_iload (pc := 39) C.1 C.2.1 dX8_store_39 (lv_at hl 4 rfl) ?_
            refine lv_bipush (v := 10) (pc := 41) C.1 C.2.1 dX8_store_41 (by decide) ?_
            refine cl_si (pc := 43) (As := [.int b4, .int ((10 : Int32))]) (rest := []) C h (m_X8_isWithin l D t a b4 ((10 : Int32)) z _ hw) mw_X8_isWithin lm_X8_113 md_X8_isWithin ⟨by decide, by decide⟩ ⟨Nat.zero_le _, Nat.zero_le _⟩ hl.1 rfl (Nat.le_of_ble_eq_true rfl) dX8_store_43 (fun r12 z11 H locs hw h => ?_)
            rw [hw.1] at h
            have hw := hw.2
            have hw := hw (∀ (H : Heap) (locs : List Loc) (ls : Array Slot), wd D t A s (wX t a z) H locs → lv_has ls 9 [(0, .ref (a 0))] → W p l e (rmd 1) s m args below meth c H locs 0 0 (QI D t A (wX t a) P below args s) (F0 m 68 ls [])) (by
                intro hw H locs ls h hl
                refine lv_aload_n (pc := 68) C.1 C.2.1 dX8_store_68 rfl (lv_at hl 0 rfl) ?_
                refine lv_iconst (v := -1) (pc := 69) C.1 C.2.1 dX8_store_69 (by decide) ?_
                refine cl_vi (pc := 70) (As := [.int ((-1 : Int32))]) (rest := []) C h (m_X8_refuse l D t a ((-1 : Int32)) z _ hw) mw_X8_refuse lm_X8_81 md_X8_refuse rcX_0 ⟨by decide, by decide⟩ ⟨Nat.zero_le _, Nat.zero_le _⟩ hl.1 rfl (Nat.le_of_ble_eq_true rfl) dX8_store_70 (fun r15 z14 H locs hw h => ?_)
                exact rt_i (pc := 73) C hr hlk h hw dX8_store_73)
            refine lv_if_eq (tgt := 68) (pc := 46) C.1 C.2.1 dX8_store_46 (by decide) (fun c16 => ?_) (fun c16 => ?_)
            · have hw := hw.1 c16
              exact hw _ _ _ h (lv_sub hl [0] rfl)
            · have hw := hw.2 c16
              refine lv_iload (pc := 49) C.1 C.2.1 dX8_store_49 (lv_at hl 5 rfl) ?_
              refine lv_bipush (v := 10) (pc := 51) C.1 C.2.1 dX8_store_51 (by decide) ?_
              refine cl_si (pc := 53) (As := [.int b5, .int ((10 : Int32))]) (rest := []) C h (m_X8_isWithin l D t a b5 ((10 : Int32)) z _ hw) mw_X8_isWithin lm_X8_113 md_X8_isWithin ⟨by decide, by decide⟩ ⟨Nat.zero_le _, Nat.zero_le _⟩ hl.1 rfl (Nat.le_of_ble_eq_true rfl) dX8_store_53 (fun r18 z17 H locs hw h => ?_)
              rw [hw.1] at h
              have hw := hw.2
              refine lv_if_eq (tgt := 68) (pc := 56) C.1 C.2.1 dX8_store_56 (by decide) (fun c19 => ?_) (fun c19 => ?_)
              · have hw := hw.1 c19
                exact hw _ _ _ h (lv_sub hl [0] rfl)
              · have hw := hw.2 c19
                refine lv_iload (pc := 59) C.1 C.2.1 dX8_store_59 (lv_at hl 6 rfl) ?_
                refine lv_iconst (v := 3) (pc := 61) C.1 C.2.1 dX8_store_61 (by decide) ?_
                refine cl_si (pc := 62) (As := [.int b6, .int ((3 : Int32))]) (rest := []) C h (m_X8_isWithin l D t a b6 ((3 : Int32)) z _ hw) mw_X8_isWithin lm_X8_113 md_X8_isWithin ⟨by decide, by decide⟩ ⟨Nat.zero_le _, Nat.zero_le _⟩ hl.1 rfl (Nat.le_of_ble_eq_true rfl) dX8_store_62 (fun r21 z20 H locs hw h => ?_)
                rw [hw.1] at h
                have hw := hw.2
                refine lv_if_ne (tgt := 74) (pc := 65) C.1 C.2.1 dX8_store_65 (by decide) (fun c22 => ?_) (fun c22 => ?_)
                · have hw := hw.1 c22
                  refine lv_aload_n (pc := 74) C.1 C.2.1 dX8_store_74 rfl (lv_at hl 0 rfl) ?_
                  refine GX_X8_19_0 (pc := 75) C h dX8_store_75 ?_
                  refine lv_iload_n (pc := 78) C.1 C.2.1 dX8_store_78 rfl (lv_at hl 1 rfl) ?_
                  refine cl_vi (pc := 79) (As := [.int b1]) (rest := []) C h (m_X0_has l D t a b1 z _ hw) mw_X0_has lm_X8_121 md_X0_has rcX_7 ⟨by decide, by decide⟩ ⟨Nat.zero_le _, Nat.zero_le _⟩ hl.1 rfl (Nat.le_of_ble_eq_true rfl) dX8_store_79 (fun r24 z23 H locs hw h => ?_)
                  rw [hw.1] at h
                  have hw := hw.2
                  refine lv_if_ne (tgt := 92) (pc := 82) C.1 C.2.1 dX8_store_82 (by decide) (fun c25 => ?_) (fun c25 => ?_)
                  · have hw := hw.1 c25
                    refine lv_aload_n (pc := 92) C.1 C.2.1 dX8_store_92 rfl (lv_at hl 0 rfl) ?_
                    refine GX_X8_53_0 (pc := 93) C h dX8_store_93 ?_
                    refine GX_X8_229_39 (pc := 96) C h dX8_store_96 ?_
                    refine lv_bipush (v := 6) (pc := 99) C.1 C.2.1 dX8_store_99 (by decide) ?_
                    refine lv_icmp_lt (tgt := 111) (pc := 101) C.1 C.2.1 dX8_store_101 (by decide) (fun c26 => ?_) (fun c26 => ?_)
                    · have hw := hw.1 c26
                      refine lv_aload_n (pc := 111) C.1 C.2.1 dX8_store_111 rfl (lv_at hl 0 rfl) ?_
                      refine GX_X8_53_0 (pc := 112) C h dX8_store_112 ?_
                      refine lv_iload_n (pc := 115) C.1 C.2.1 dX8_store_115 rfl (lv_at hl 1 rfl) ?_
                      refine lv_iload_n (pc := 116) C.1 C.2.1 dX8_store_116 rfl (lv_at hl 2 rfl) ?_
                      refine lv_iload_n (pc := 117) C.1 C.2.1 dX8_store_117 rfl (lv_at hl 3 rfl) ?_
                      refine cl_vi (pc := 118) (As := [.int b1, .int b2, .int b3]) (rest := []) C h (m_X7_add l D t a b1 b2 b3 z _ hw) mw_X7_add lm_X8_230 md_X7_add rcX_39 ⟨by decide, by decide⟩ ⟨Nat.zero_le _, Nat.zero_le _⟩ hl.1 rfl (Nat.le_of_ble_eq_true rfl) dX8_store_118 (fun r28 z27 H locs hw h => ?_)
                      refine lv_istore (lv' := [(8, .int r28), (0, .ref (a 0)), (1, .int b1), (2, .int b2), (3, .int b3), (4, .int b4), (5, .int b5), (6, .int b6), (7, .int b7)]) (pc := 121) C.1 C.2.1 dX8_store_121 hl (by decide) rfl (fun ls hl => ?_)
                      refine lv_aload_n (pc := 123) C.1 C.2.1 dX8_store_123 rfl (lv_at hl 1 rfl) ?_
                      refine GX_X8_53_0 (pc := 124) C h dX8_store_124 ?_
                      refine lv_iload (pc := 127) C.1 C.2.1 dX8_store_127 (lv_at hl 0 rfl) ?_
                      refine lv_iload (pc := 129) C.1 C.2.1 dX8_store_129 (lv_at hl 5 rfl) ?_
                      refine lv_iload (pc := 131) C.1 C.2.1 dX8_store_131 (lv_at hl 6 rfl) ?_
                      refine lv_iload (pc := 133) C.1 C.2.1 dX8_store_133 (lv_at hl 7 rfl) ?_
                      refine lv_iload (pc := 135) C.1 C.2.1 dX8_store_135 (lv_at hl 8 rfl) ?_
                      refine cl_vv (pc := 137) (As := [.int r28, .int b4, .int b5, .int b6, .int b7]) (rest := []) C h (m_X7_setFlow l D t a r28 b4 b5 b6 b7 z27 _ hw) mw_X7_setFlow lm_X8_233 md_X7_setFlow rcX_39 ⟨by decide, by decide⟩ ⟨Nat.zero_le _, Nat.zero_le _⟩ hl.1 rfl (Nat.le_of_ble_eq_true rfl) dX8_store_137 (fun z29 H locs hw h => ?_)
                      refine lv_aload_n (pc := 140) C.1 C.2.1 dX8_store_140 rfl (lv_at hl 1 rfl) ?_
                      refine lv_iload (pc := 141) C.1 C.2.1 dX8_store_141 (lv_at hl 0 rfl) ?_
                      refine cl_vi (pc := 143) (As := [.int r28]) (rest := []) C h (m_X8_accept l D t a r28 z29 _ hw) mw_X8_accept lm_X8_99 md_X8_accept rcX_0 ⟨by decide, by decide⟩ ⟨Nat.zero_le _, Nat.zero_le _⟩ hl.1 rfl (Nat.le_of_ble_eq_true rfl) dX8_store_143 (fun r32 z31 H locs hw h => ?_)
                      exact rt_i (pc := 146) C hr hlk h hw dX8_store_146
                    · have hw := hw.2 c26
                      refine lv_aload_n (pc := 104) C.1 C.2.1 dX8_store_104 rfl (lv_at hl 0 rfl) ?_
                      refine lv_bipush (v := -5) (pc := 105) C.1 C.2.1 dX8_store_105 (by decide) ?_
                      refine cl_vi (pc := 107) (As := [.int ((-5 : Int32))]) (rest := []) C h (m_X8_refuse l D t a ((-5 : Int32)) z _ hw) mw_X8_refuse lm_X8_81 md_X8_refuse rcX_0 ⟨by decide, by decide⟩ ⟨Nat.zero_le _, Nat.zero_le _⟩ hl.1 rfl (Nat.le_of_ble_eq_true rfl) dX8_store_107 (fun r34 z33 H locs hw h => ?_)
                      exact rt_i (pc := 110) C hr hlk h hw dX8_store_110
                  · have hw := hw.2 c25
                    refine lv_aload_n (pc := 85) C.1 C.2.1 dX8_store_85 rfl (lv_at hl 0 rfl) ?_
                    refine lv_bipush (v := -2) (pc := 86) C.1 C.2.1 dX8_store_86 (by decide) ?_
                    refine cl_vi (pc := 88) (As := [.int ((-2 : Int32))]) (rest := []) C h (m_X8_refuse l D t a ((-2 : Int32)) z _ hw) mw_X8_refuse lm_X8_81 md_X8_refuse rcX_0 ⟨by decide, by decide⟩ ⟨Nat.zero_le _, Nat.zero_le _⟩ hl.1 rfl (Nat.le_of_ble_eq_true rfl) dX8_store_88 (fun r36 z35 H locs hw h => ?_)
                    exact rt_i (pc := 91) C hr hlk h hw dX8_store_91
                · have hw := hw.2 c22
                  exact hw _ _ _ h (lv_sub hl [0] rfl)
          · have hw := hw.2 c10
            exact hw _ _ _ h (lv_sub hl [0] rfl)

def wp_X7_has (b1 : Int32) (z : St) (P : Int32 → Prop) : Prop :=
  (((b1 < 0) → P ((0 : Int32))) ∧ (¬ (b1 < 0) → ((((gI z 3909) ≤ b1) → P ((0 : Int32))) ∧ (¬ ((gI z 3909) ≤ b1) → P ((1 : Int32))))))
set_option maxHeartbeats 4000000 in
set_option maxRecDepth 100000 in
theorem m_X7_has (l : Launch) (D : va_G) (t : Ty3) (a : Nat → Nat) (b1 : Int32) (z : St) (P : Int32 → Prop) (hw : wp_X7_has b1 z P) : CtI l D t yX7_has cX7_has 2 (some .boolean) 0 (wX t a) (wX t a z) [.ref (a 39), .int b1] (fun rr zz => zz = z ∧ P rr) := by
  refine ctI_of (by decide) (Nat.le_of_ble_eq_true rfl) ?_
  intro p e s m args below meth c A ls C hr hlk h hl
  have hl : lv_has ls 2 [(0, .ref (a 39)), (1, .int b1)] := hl
  unfold wp_X7_has at hw
  refine lv_iload_n (pc := 0) C.1 C.2.1 dX7_has_0 rfl (lv_at hl 1 rfl) ?_
  refine lv_if_lt (tgt := 16) (pc := 1) C.1 C.2.1 dX7_has_1 (by decide) (fun c1 => ?_) (fun c1 => ?_)
  · have hw := hw.1 c1
    refine lv_iconst (v := 0) (pc := 16) C.1 C.2.1 dX7_has_16 (by decide) ?_
    exact rt_z (pc := 17) C hr hlk h (Or.inl rfl) ⟨rfl, hw⟩ dX7_has_17
  · have hw := hw.2 c1
    refine lv_iload_n (pc := 4) C.1 C.2.1 dX7_has_4 rfl (lv_at hl 1 rfl) ?_
    refine lv_aload_n (pc := 5) C.1 C.2.1 dX7_has_5 rfl (lv_at hl 0 rfl) ?_
    refine GX_X7_57_39 (pc := 6) C h dX7_has_6 ?_
    refine lv_icmp_ge (tgt := 16) (pc := 9) C.1 C.2.1 dX7_has_9 (by decide) (fun c2 => ?_) (fun c2 => ?_)
    · have hw := hw.1 c2
      refine lv_iconst (v := 0) (pc := 16) C.1 C.2.1 dX7_has_16 (by decide) ?_
      exact rt_z (pc := 17) C hr hlk h (Or.inl rfl) ⟨rfl, hw⟩ dX7_has_17
    · have hw := hw.2 c2
      refine lv_iconst (v := 1) (pc := 12) C.1 C.2.1 dX7_has_12 (by decide) ?_
      refine lv_goto (tgt := 17) (pc := 13) C.1 C.2.1 dX7_has_13 (by decide) ?_
      exact rt_z (pc := 17) C hr hlk h (Or.inr rfl) ⟨rfl, hw⟩ dX7_has_17

def wp_X7_mostOf (b1 : Int32) (z : St) (P : Int32 → Prop) : Prop :=
  (wp_X7_has b1 z (fun r2 => (((r2 = 0) → P ((40 : Int32))) ∧ (¬ (r2 = 0) → (vp_in b1 6 ∧ P (gF z 41 b1.toNatClampNeg))))))
set_option maxHeartbeats 4000000 in
set_option maxRecDepth 100000 in
theorem m_X7_mostOf (l : Launch) (D : va_G) (t : Ty3) (a : Nat → Nat) (b1 : Int32) (z : St) (P : Int32 → Prop) (hw : wp_X7_mostOf b1 z P) : CtI l D t yX7_mostOf cX7_mostOf 2 (some .int) 1 (wX t a) (wX t a z) [.ref (a 39), .int b1] (fun rr zz => zz = z ∧ P rr) := by
  refine ctI_of (by decide) (Nat.le_of_ble_eq_true rfl) ?_
  intro p e s m args below meth c A ls C hr hlk h hl
  have hl : lv_has ls 2 [(0, .ref (a 39)), (1, .int b1)] := hl
  unfold wp_X7_mostOf at hw
  refine lv_aload_n (pc := 0) C.1 C.2.1 dX7_mostOf_0 rfl (lv_at hl 0 rfl) ?_
  refine lv_iload_n (pc := 1) C.1 C.2.1 dX7_mostOf_1 rfl (lv_at hl 1 rfl) ?_
  refine cl_vi (pc := 2) (As := [.int b1]) (rest := []) C h (m_X7_has l D t a b1 z _ hw) mw_X7_has lm_X7_64 md_X7_has rcX_39 ⟨by decide, by decide⟩ ⟨Nat.zero_le _, Nat.zero_le _⟩ hl.1 rfl (Nat.le_of_ble_eq_true rfl) dX7_mostOf_2 (fun r2 z1 H locs hw h => ?_)
  rw [hw.1] at h
  have hw := hw.2
  refine lv_if_eq (tgt := 17) (pc := 5) C.1 C.2.1 dX7_mostOf_5 (by decide) (fun c3 => ?_) (fun c3 => ?_)
  · have hw := hw.1 c3
    refine lv_bipush (v := 40) (pc := 17) C.1 C.2.1 dX7_mostOf_17 (by decide) ?_
    exact rt_i (pc := 19) C hr hlk h ⟨rfl, hw⟩ dX7_mostOf_19
  · have hw := hw.2 c3
    refine lv_aload_n (pc := 8) C.1 C.2.1 dX7_mostOf_8 rfl (lv_at hl 0 rfl) ?_
    refine GX_X7_15_39 (pc := 9) C h dX7_mostOf_9 ?_
    refine lv_iload_n (pc := 12) C.1 C.2.1 dX7_mostOf_12 rfl (lv_at hl 1 rfl) ?_
    refine ldX_41 (pc := 13) C h hw.1 dX7_mostOf_13 ?_
    have hw := hw.2
    refine lv_goto (tgt := 19) (pc := 14) C.1 C.2.1 dX7_mostOf_14 (by decide) ?_
    exact rt_i (pc := 19) C hr hlk h ⟨rfl, hw⟩ dX7_mostOf_19

def wp_X8_level (b1 : Int32) (b2 : Int32) (z : St) (P : Int32 → St → Prop) : Prop :=
  (wp_X7_mostOf b1 z (fun r2 => (wp_X8_isWithin b2 r2 z (fun r4 => (((¬ r4 = 0) → (wp_X7_has b1 z (fun r7 => (((¬ r7 = 0) → (vp_in b1 6 ∧ (∀ x9 : Int32, x9 = gF z 42 b1.toNatClampNeg → (vp_in b1 6 ∧ (∀ z10 : St, z10 = wR z 42 (upd (gF z 42) b1.toNatClampNeg b2) → (wp_X8_accept x9 z10 (fun r12 z11 => P r12 z11))))))) ∧ (r7 = 0 → (wp_X8_refuse ((-2 : Int32)) z (fun r14 z13 => P r14 z13))))))) ∧ (r4 = 0 → (wp_X8_refuse ((-1 : Int32)) z (fun r16 z15 => P r16 z15))))))))
set_option maxHeartbeats 4000000 in
set_option maxRecDepth 100000 in
theorem m_X8_level (l : Launch) (D : va_G) (t : Ty3) (a : Nat → Nat) (b1 : Int32) (b2 : Int32) (z : St) (P : Int32 → St → Prop) (hw : wp_X8_level b1 b2 z P) : CtI l D t yX8_level cX8_level 4 (some .int) 2 (wX t a) (wX t a z) [.ref (a 0), .int b1, .int b2] P := by
  refine ctI_of (by decide) (Nat.le_of_ble_eq_true rfl) ?_
  intro p e s m args below meth c A ls C hr hlk h hl
  have hl : lv_has ls 4 [(0, .ref (a 0)), (1, .int b1), (2, .int b2)] := hl
  unfold wp_X8_level at hw
  refine lv_iload_n (pc := 0) C.1 C.2.1 dX8_level_0 rfl (lv_at hl 2 rfl) ?_
  refine lv_aload_n (pc := 1) C.1 C.2.1 dX8_level_1 rfl (lv_at hl 0 rfl) ?_
  refine GX_X8_53_0 (pc := 2) C h dX8_level_2 ?_
  refine lv_iload_n (pc := 5) C.1 C.2.1 dX8_level_5 rfl (lv_at hl 1 rfl) ?_
  refine cl_vi (pc := 6) (As := [.int b1]) (rest := [.int b2]) C h (m_X7_mostOf l D t a b1 z _ hw) mw_X7_mostOf lm_X8_236 md_X7_mostOf rcX_39 ⟨by decide, by decide⟩ ⟨Nat.zero_le _, Nat.zero_le _⟩ hl.1 rfl (Nat.le_of_ble_eq_true rfl) dX8_level_6 (fun r2 z1 H locs hw h => ?_)
  rw [hw.1] at h
  have hw := hw.2
  refine cl_si (pc := 9) (As := [.int b2, .int r2]) (rest := []) C h (m_X8_isWithin l D t a b2 r2 z _ hw) mw_X8_isWithin lm_X8_113 md_X8_isWithin ⟨by decide, by decide⟩ ⟨Nat.zero_le _, Nat.zero_le _⟩ hl.1 rfl (Nat.le_of_ble_eq_true rfl) dX8_level_9 (fun r4 z3 H locs hw h => ?_)
  rw [hw.1] at h
  have hw := hw.2
  refine lv_if_ne (tgt := 21) (pc := 12) C.1 C.2.1 dX8_level_12 (by decide) (fun c5 => ?_) (fun c5 => ?_)
  · have hw := hw.1 c5
    refine lv_aload_n (pc := 21) C.1 C.2.1 dX8_level_21 rfl (lv_at hl 0 rfl) ?_
    refine GX_X8_53_0 (pc := 22) C h dX8_level_22 ?_
    refine lv_iload_n (pc := 25) C.1 C.2.1 dX8_level_25 rfl (lv_at hl 1 rfl) ?_
    refine cl_vi (pc := 26) (As := [.int b1]) (rest := []) C h (m_X7_has l D t a b1 z _ hw) mw_X7_has lm_X8_239 md_X7_has rcX_39 ⟨by decide, by decide⟩ ⟨Nat.zero_le _, Nat.zero_le _⟩ hl.1 rfl (Nat.le_of_ble_eq_true rfl) dX8_level_26 (fun r7 z6 H locs hw h => ?_)
    rw [hw.1] at h
    have hw := hw.2
    refine lv_if_ne (tgt := 39) (pc := 29) C.1 C.2.1 dX8_level_29 (by decide) (fun c8 => ?_) (fun c8 => ?_)
    · have hw := hw.1 c8
      refine lv_aload_n (pc := 39) C.1 C.2.1 dX8_level_39 rfl (lv_at hl 0 rfl) ?_
      refine GX_X8_53_0 (pc := 40) C h dX8_level_40 ?_
      refine GX_X8_240_39 (pc := 43) C h dX8_level_43 ?_
      refine lv_iload_n (pc := 46) C.1 C.2.1 dX8_level_46 rfl (lv_at hl 1 rfl) ?_
      refine ldX_42 (pc := 47) C h hw.1 dX8_level_47 ?_
      have hw := hw.2
      refine lv_topi (fun x9 ex9 => ?_)
      have hw := hw x9 ex9
      refine lv_istore_n (lv' := [(3, .int x9), (0, .ref (a 0)), (1, .int b1), (2, .int b2)]) (pc := 48) C.1 C.2.1 dX8_level_48 rfl hl (by decide) rfl (fun ls hl => ?_)
      refine lv_aload_n (pc := 49) C.1 C.2.1 dX8_level_49 rfl (lv_at hl 1 rfl) ?_
      refine GX_X8_53_0 (pc := 50) C h dX8_level_50 ?_
      refine GX_X8_240_39 (pc := 53) C h dX8_level_53 ?_
      refine lv_iload_n (pc := 56) C.1 C.2.1 dX8_level_56 rfl (lv_at hl 2 rfl) ?_
      refine lv_iload_n (pc := 57) C.1 C.2.1 dX8_level_57 rfl (lv_at hl 3 rfl) ?_
      refine stX_42 (pc := 58) C h hw.1 dX8_level_58 (fun z10 ez10 H locs h => ?_)
      have hw := hw.2 z10 ez10
      refine lv_aload_n (pc := 59) C.1 C.2.1 dX8_level_59 rfl (lv_at hl 1 rfl) ?_
      refine lv_iload_n (pc := 60) C.1 C.2.1 dX8_level_60 rfl (lv_at hl 0 rfl) ?_
      refine cl_vi (pc := 61) (As := [.int x9]) (rest := []) C h (m_X8_accept l D t a x9 z10 _ hw) mw_X8_accept lm_X8_99 md_X8_accept rcX_0 ⟨by decide, by decide⟩ ⟨Nat.zero_le _, Nat.zero_le _⟩ hl.1 rfl (Nat.le_of_ble_eq_true rfl) dX8_level_61 (fun r12 z11 H locs hw h => ?_)
      exact rt_i (pc := 64) C hr hlk h hw dX8_level_64
    · have hw := hw.2 c8
      refine lv_aload_n (pc := 32) C.1 C.2.1 dX8_level_32 rfl (lv_at hl 0 rfl) ?_
      refine lv_bipush (v := -2) (pc := 33) C.1 C.2.1 dX8_level_33 (by decide) ?_
      refine cl_vi (pc := 35) (As := [.int ((-2 : Int32))]) (rest := []) C h (m_X8_refuse l D t a ((-2 : Int32)) z _ hw) mw_X8_refuse lm_X8_81 md_X8_refuse rcX_0 ⟨by decide, by decide⟩ ⟨Nat.zero_le _, Nat.zero_le _⟩ hl.1 rfl (Nat.le_of_ble_eq_true rfl) dX8_level_35 (fun r14 z13 H locs hw h => ?_)
      exact rt_i (pc := 38) C hr hlk h hw dX8_level_38
  · have hw := hw.2 c5
    refine lv_aload_n (pc := 15) C.1 C.2.1 dX8_level_15 rfl (lv_at hl 0 rfl) ?_
    refine lv_iconst (v := -1) (pc := 16) C.1 C.2.1 dX8_level_16 (by decide) ?_
    refine cl_vi (pc := 17) (As := [.int ((-1 : Int32))]) (rest := []) C h (m_X8_refuse l D t a ((-1 : Int32)) z _ hw) mw_X8_refuse lm_X8_81 md_X8_refuse rcX_0 ⟨by decide, by decide⟩ ⟨Nat.zero_le _, Nat.zero_le _⟩ hl.1 rfl (Nat.le_of_ble_eq_true rfl) dX8_level_17 (fun r16 z15 H locs hw h => ?_)
    exact rt_i (pc := 20) C hr hlk h hw dX8_level_20

def wp_X7_mostWithin (b1 : Int32) (b2 : Int32) (b3 : Int32) (z : St) (P : Int32 → Prop) : Prop :=
  (∀ K2 : Int32 → Prop, (∀ (v1 : Int32), (((b2 ≤ v1) → P v1) ∧ (¬ (b2 ≤ v1) → (((b1 < ((v1 + ((1 : Int32))) * b3)) → P v1) ∧ (¬ (b1 < ((v1 + ((1 : Int32))) * b3)) → (∀ x5 : Int32, x5 = v1 + (1) → K2 x5))))) → K2 v1) → K2 ((0 : Int32)))
set_option maxHeartbeats 4000000 in
set_option maxRecDepth 100000 in
theorem m_X7_mostWithin (l : Launch) (D : va_G) (t : Ty3) (a : Nat → Nat) (b1 : Int32) (b2 : Int32) (b3 : Int32) (z : St) (P : Int32 → Prop) (hw : wp_X7_mostWithin b1 b2 b3 z P) : CtI l D t yX7_mostWithin cX7_mostWithin 4 (some .int) 0 (wX t a) (wX t a z) [.int b1, .int b2, .int b3] (fun rr zz => zz = z ∧ P rr) := by
  refine ctI_of (by decide) (Nat.le_of_ble_eq_true rfl) ?_
  intro p e s m args below meth c A ls C hr hlk h hl
  have hl : lv_has ls 4 [(0, .int b1), (1, .int b2), (2, .int b3)] := hl
  unfold wp_X7_mostWithin at hw
  refine lv_iconst (v := 0) (pc := 0) C.1 C.2.1 dX7_mostWithin_0 (by decide) ?_
  have hw := hw (fun (v1 : Int32) => ∀ (H : Heap) (locs : List Loc) (ls : Array Slot), wd D t A s (wX t a z) H locs → lv_has ls 4 [(0, .int b1), (1, .int b2), (2, .int b3), (3, .int v1)] → W p l e (rmd 0) s m args below meth c H locs 0 0 (QI D t A (wX t a) (fun rr zz => zz = z ∧ P rr) below args s) (F0 m 2 ls [])) (by
      intro v1 hw H locs ls h hl
      refine lv_iload_n (pc := 2) C.1 C.2.1 dX7_mostWithin_2 rfl (lv_at hl 3 rfl) ?_
      refine lv_iload_n (pc := 3) C.1 C.2.1 dX7_mostWithin_3 rfl (lv_at hl 1 rfl) ?_
      refine lv_icmp_ge (tgt := 22) (pc := 4) C.1 C.2.1 dX7_mostWithin_4 (by decide) (fun c3 => ?_) (fun c3 => ?_)
      · have hw := hw.1 c3
        refine lv_iload_n (pc := 22) C.1 C.2.1 dX7_mostWithin_22 rfl (lv_at hl 3 rfl) ?_
        exact rt_i (pc := 23) C hr hlk h ⟨rfl, hw⟩ dX7_mostWithin_23
      · have hw := hw.2 c3
        refine lv_iload_n (pc := 7) C.1 C.2.1 dX7_mostWithin_7 rfl (lv_at hl 3 rfl) ?_
        refine lv_iconst (v := 1) (pc := 8) C.1 C.2.1 dX7_mostWithin_8 (by decide) ?_
        refine lv_iadd (pc := 9) C.1 C.2.1 dX7_mostWithin_9 ?_
        refine lv_iload_n (pc := 10) C.1 C.2.1 dX7_mostWithin_10 rfl (lv_at hl 2 rfl) ?_
        refine lv_imul (pc := 11) C.1 C.2.1 dX7_mostWithin_11 ?_
        refine lv_iload_n (pc := 12) C.1 C.2.1 dX7_mostWithin_12 rfl (lv_at hl 0 rfl) ?_
        refine lv_icmp_gt (tgt := 22) (pc := 13) C.1 C.2.1 dX7_mostWithin_13 (by decide) (fun c4 => ?_) (fun c4 => ?_)
        · have hw := hw.1 c4
          refine lv_iload_n (pc := 22) C.1 C.2.1 dX7_mostWithin_22 rfl (lv_at hl 3 rfl) ?_
          exact rt_i (pc := 23) C hr hlk h ⟨rfl, hw⟩ dX7_mostWithin_23
        · have hw := hw.2 c4
          obtain ⟨x5, ex5⟩ : ∃ y : Int32, y = v1 + (1) := ⟨_, rfl⟩
          have hw := hw x5 ex5
          refine lv_iinc (v := x5) (lv' := [(3, .int x5), (0, .int b1), (1, .int b2), (2, .int b3)]) (pc := 16) C.1 C.2.1 dX7_mostWithin_16 hl (k := 3) rfl (by rw [ex5]; rfl) (by decide) rfl (fun ls hl => ?_)
          refine lv_goto (tgt := 2) (pc := 19) C.1 C.2.1 dX7_mostWithin_19 (by decide) ?_
          exact hw _ _ _ h (lv_sub hl [1, 2, 3, 0] rfl))
  refine lv_istore_n (lv' := [(3, .int ((0 : Int32))), (0, .int b1), (1, .int b2), (2, .int b3)]) (pc := 1) C.1 C.2.1 dX7_mostWithin_1 rfl hl (by decide) rfl (fun ls hl => ?_)
  exact hw _ _ _ h (lv_sub hl [1, 2, 3, 0] rfl)

def wp_X7_mostOut (b1 : Int32) (b2 : Int32) (z : St) (P : Int32 → Prop) : Prop :=
  (vp_in b1 6 ∧ (wp_X0_draws (gF z 40 b1.toNatClampNeg) b2 z (fun r2 => (vp_in b1 6 ∧ (vp_in b1 6 ∧ (wp_X7_mostWithin r2 (gF z 44 b1.toNatClampNeg) (gF z 46 b1.toNatClampNeg) z (fun r4 => P r4)))))))
set_option maxHeartbeats 4000000 in
set_option maxRecDepth 100000 in
theorem m_X7_mostOut (l : Launch) (D : va_G) (t : Ty3) (a : Nat → Nat) (b1 : Int32) (b2 : Int32) (z : St) (P : Int32 → Prop) (hw : wp_X7_mostOut b1 b2 z P) : CtI l D t yX7_mostOut cX7_mostOut 3 (some .int) 1 (wX t a) (wX t a z) [.ref (a 39), .int b1, .int b2] (fun rr zz => zz = z ∧ P rr) := by
  refine ctI_of (by decide) (Nat.le_of_ble_eq_true rfl) ?_
  intro p e s m args below meth c A ls C hr hlk h hl
  have hl : lv_has ls 3 [(0, .ref (a 39)), (1, .int b1), (2, .int b2)] := hl
  unfold wp_X7_mostOut at hw
  refine lv_aload_n (pc := 0) C.1 C.2.1 dX7_mostOut_0 rfl (lv_at hl 0 rfl) ?_
  refine GX_X7_53_39 (pc := 1) C h dX7_mostOut_1 ?_
  refine lv_aload_n (pc := 4) C.1 C.2.1 dX7_mostOut_4 rfl (lv_at hl 0 rfl) ?_
  refine GX_X7_9_39 (pc := 5) C h dX7_mostOut_5 ?_
  refine lv_iload_n (pc := 8) C.1 C.2.1 dX7_mostOut_8 rfl (lv_at hl 1 rfl) ?_
  refine ldX_40 (pc := 9) C h hw.1 dX7_mostOut_9 ?_
  have hw := hw.2
  refine lv_iload_n (pc := 10) C.1 C.2.1 dX7_mostOut_10 rfl (lv_at hl 2 rfl) ?_
  refine cl_vi (pc := 11) (As := [.int (gF z 40 b1.toNatClampNeg), .int b2]) (rest := []) C h (m_X0_draws l D t a (gF z 40 b1.toNatClampNeg) b2 z _ hw) mw_X0_draws lm_X7_105 md_X0_draws rcX_7 ⟨by decide, by decide⟩ ⟨Nat.zero_le _, Nat.zero_le _⟩ hl.1 rfl (Nat.le_of_ble_eq_true rfl) dX7_mostOut_11 (fun r2 z1 H locs hw h => ?_)
  rw [hw.1] at h
  have hw := hw.2
  refine lv_aload_n (pc := 14) C.1 C.2.1 dX7_mostOut_14 rfl (lv_at hl 0 rfl) ?_
  refine GX_X7_24_39 (pc := 15) C h dX7_mostOut_15 ?_
  refine lv_iload_n (pc := 18) C.1 C.2.1 dX7_mostOut_18 rfl (lv_at hl 1 rfl) ?_
  refine ldX_44 (pc := 19) C h hw.1 dX7_mostOut_19 ?_
  have hw := hw.2
  refine lv_aload_n (pc := 20) C.1 C.2.1 dX7_mostOut_20 rfl (lv_at hl 0 rfl) ?_
  refine GX_X7_30_39 (pc := 21) C h dX7_mostOut_21 ?_
  refine lv_iload_n (pc := 24) C.1 C.2.1 dX7_mostOut_24 rfl (lv_at hl 1 rfl) ?_
  refine ldX_46 (pc := 25) C h hw.1 dX7_mostOut_25 ?_
  have hw := hw.2
  refine cl_si (pc := 26) (As := [.int r2, .int (gF z 44 b1.toNatClampNeg), .int (gF z 46 b1.toNatClampNeg)]) (rest := []) C h (m_X7_mostWithin l D t a r2 (gF z 44 b1.toNatClampNeg) (gF z 46 b1.toNatClampNeg) z _ hw) mw_X7_mostWithin lm_X7_108 md_X7_mostWithin ⟨by decide, by decide⟩ ⟨Nat.zero_le _, Nat.zero_le _⟩ hl.1 rfl (Nat.le_of_ble_eq_true rfl) dX7_mostOut_26 (fun r4 z3 H locs hw h => ?_)
  rw [hw.1] at h
  have hw := hw.2
  exact rt_i (pc := 29) C hr hlk h ⟨rfl, hw⟩ dX7_mostOut_29
