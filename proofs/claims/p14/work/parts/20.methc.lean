def wp_X9_put (b1 : Int32) (b2 : Int32) (z : St) (P : Int32 → St → Prop) : Prop :=
  (∀ z1 : St, z1 = wI z 0 ((0 : Int32)) → (wp_X9_isJob b1 z1 (fun r3 z2 => (((¬ r3 = 0) → (vp_in b1 16 ∧ (((¬ (gF z2 11 b1.toNatClampNeg) = ((2 : Int32))) → (wp_X9_mayBegin b1 b2 z2 (fun r7 z6 => (((¬ r7 = 0) → (vp_in b1 16 ∧ (∀ z9 : St, z9 = wR z6 11 (upd (gF z6 11) b1.toNatClampNeg ((1 : Int32))) → (vp_in b1 16 ∧ (∀ z10 : St, z10 = wR z9 12 (upd (gF z9 12) b1.toNatClampNeg b2) → (wp_X9_told ((0 : Int32)) z10 (fun r12 z11 => P r12 z11))))))) ∧ (r7 = 0 → (wp_X9_told ((-6 : Int32)) z6 (fun r14 z13 => P r14 z13))))))) ∧ ((gF z2 11 b1.toNatClampNeg) = ((2 : Int32)) → (wp_X9_told ((-3 : Int32)) z2 (fun r16 z15 => P r16 z15)))))) ∧ (r3 = 0 → (wp_X9_told ((-2 : Int32)) z2 (fun r18 z17 => P r18 z17)))))))
set_option maxHeartbeats 4000000 in
set_option maxRecDepth 100000 in
theorem m_X9_put (l : Launch) (D : va_G) (t : Ty3) (a : Nat → Nat) (b1 : Int32) (b2 : Int32) (z : St) (P : Int32 → St → Prop) (hw : wp_X9_put b1 b2 z P) : CtI l D t yX9_put cX9_put 3 (some .int) 4 (wM t a) (wM t a z) [.ref (a 0), .int b1, .int b2] P := by
  refine ctI_of (by decide) (Nat.le_of_ble_eq_true rfl) ?_
  intro p e s m args below meth c A ls C hr hlk h hl
  have hl : lv_has ls 3 [(0, .ref (a 0)), (1, .int b1), (2, .int b2)] := hl
  unfold wp_X9_put at hw
  refine lv_aload_n (pc := 0) C.1 C.2.1 dX9_put_0 rfl (lv_at hl 0 rfl) ?_
  refine lv_iconst (v := 0) (pc := 1) C.1 C.2.1 dX9_put_1 (by decide) ?_
  refine PM_X9_131_0 (pc := 2) C h dX9_put_2 (fun z1 ez1 H locs h => ?_)
  have hw := hw z1 ez1
  refine lv_aload_n (pc := 5) C.1 C.2.1 dX9_put_5 rfl (lv_at hl 0 rfl) ?_
  refine lv_iload_n (pc := 6) C.1 C.2.1 dX9_put_6 rfl (lv_at hl 1 rfl) ?_
  refine cl_vi (pc := 7) (As := [.int b1]) (rest := []) C h (m_X9_isJob l D t a b1 z1 _ hw) mw_X9_isJob lm_X9_193 md_X9_isJob rcM_0 ⟨by decide, by decide⟩ ⟨Nat.zero_le _, Nat.zero_le _⟩ hl.1 rfl (Nat.le_of_ble_eq_true rfl) dX9_put_7 (fun r3 z2 H locs hw h => ?_)
  refine lv_if_ne (tgt := 20) (pc := 10) C.1 C.2.1 dX9_put_10 (by decide) (fun c4 => ?_) (fun c4 => ?_)
  · have hw := hw.1 c4
    refine lv_aload_n (pc := 20) C.1 C.2.1 dX9_put_20 rfl (lv_at hl 0 rfl) ?_
    refine GM_X9_48_0 (pc := 21) C h dX9_put_21 ?_
    refine lv_iload_n (pc := 24) C.1 C.2.1 dX9_put_24 rfl (lv_at hl 1 rfl) ?_
    refine ldM_11 (pc := 25) C h hw.1 dX9_put_25 ?_
    have hw := hw.2
    refine lv_iconst (v := 2) (pc := 26) C.1 C.2.1 dX9_put_26 (by decide) ?_
    refine lv_icmp_ne (tgt := 37) (pc := 27) C.1 C.2.1 dX9_put_27 (by decide) (fun c5 => ?_) (fun c5 => ?_)
    · have hw := hw.1 c5
      refine lv_aload_n (pc := 37) C.1 C.2.1 dX9_put_37 rfl (lv_at hl 0 rfl) ?_
      refine lv_iload_n (pc := 38) C.1 C.2.1 dX9_put_38 rfl (lv_at hl 1 rfl) ?_
      refine lv_iload_n (pc := 39) C.1 C.2.1 dX9_put_39 rfl (lv_at hl 2 rfl) ?_
      refine cl_vi (pc := 40) (As := [.int b1, .int b2]) (rest := []) C h (m_X9_mayBegin l D t a b1 b2 z2 _ hw) mw_X9_mayBegin lm_X9_220 md_X9_mayBegin rcM_0 ⟨by decide, by decide⟩ ⟨Nat.zero_le _, Nat.zero_le _⟩ hl.1 rfl (Nat.le_of_ble_eq_true rfl) dX9_put_40 (fun r7 z6 H locs hw h => ?_)
      refine lv_if_ne (tgt := 53) (pc := 43) C.1 C.2.1 dX9_put_43 (by decide) (fun c8 => ?_) (fun c8 => ?_)
      · have hw := hw.1 c8
        refine lv_aload_n (pc := 53) C.1 C.2.1 dX9_put_53 rfl (lv_at hl 0 rfl) ?_
        refine GM_X9_48_0 (pc := 54) C h dX9_put_54 ?_
        refine lv_iload_n (pc := 57) C.1 C.2.1 dX9_put_57 rfl (lv_at hl 1 rfl) ?_
        refine lv_iconst (v := 1) (pc := 58) C.1 C.2.1 dX9_put_58 (by decide) ?_
        refine stM_11 (pc := 59) C h hw.1 dX9_put_59 (fun z9 ez9 H locs h => ?_)
        have hw := hw.2 z9 ez9
        refine lv_aload_n (pc := 60) C.1 C.2.1 dX9_put_60 rfl (lv_at hl 0 rfl) ?_
        refine GM_X9_51_0 (pc := 61) C h dX9_put_61 ?_
        refine lv_iload_n (pc := 64) C.1 C.2.1 dX9_put_64 rfl (lv_at hl 1 rfl) ?_
        refine lv_iload_n (pc := 65) C.1 C.2.1 dX9_put_65 rfl (lv_at hl 2 rfl) ?_
        refine stM_12 (pc := 66) C h hw.1 dX9_put_66 (fun z10 ez10 H locs h => ?_)
        have hw := hw.2 z10 ez10
        refine lv_aload_n (pc := 67) C.1 C.2.1 dX9_put_67 rfl (lv_at hl 0 rfl) ?_
        refine lv_iconst (v := 0) (pc := 68) C.1 C.2.1 dX9_put_68 (by decide) ?_
        refine cl_vi (pc := 69) (As := [.int ((0 : Int32))]) (rest := []) C h (m_X9_told l D t a ((0 : Int32)) z10 _ hw) mw_X9_told lm_X9_162 md_X9_told rcM_0 ⟨by decide, by decide⟩ ⟨Nat.zero_le _, Nat.zero_le _⟩ hl.1 rfl (Nat.le_of_ble_eq_true rfl) dX9_put_69 (fun r12 z11 H locs hw h => ?_)
        exact rt_i (pc := 72) C hr hlk h hw dX9_put_72
      · have hw := hw.2 c8
        refine lv_aload_n (pc := 46) C.1 C.2.1 dX9_put_46 rfl (lv_at hl 0 rfl) ?_
        refine lv_bipush (v := -6) (pc := 47) C.1 C.2.1 dX9_put_47 (by decide) ?_
        refine cl_vi (pc := 49) (As := [.int ((-6 : Int32))]) (rest := []) C h (m_X9_told l D t a ((-6 : Int32)) z6 _ hw) mw_X9_told lm_X9_162 md_X9_told rcM_0 ⟨by decide, by decide⟩ ⟨Nat.zero_le _, Nat.zero_le _⟩ hl.1 rfl (Nat.le_of_ble_eq_true rfl) dX9_put_49 (fun r14 z13 H locs hw h => ?_)
        exact rt_i (pc := 52) C hr hlk h hw dX9_put_52
    · have hw := hw.2 c5
      refine lv_aload_n (pc := 30) C.1 C.2.1 dX9_put_30 rfl (lv_at hl 0 rfl) ?_
      refine lv_bipush (v := -3) (pc := 31) C.1 C.2.1 dX9_put_31 (by decide) ?_
      refine cl_vi (pc := 33) (As := [.int ((-3 : Int32))]) (rest := []) C h (m_X9_told l D t a ((-3 : Int32)) z2 _ hw) mw_X9_told lm_X9_162 md_X9_told rcM_0 ⟨by decide, by decide⟩ ⟨Nat.zero_le _, Nat.zero_le _⟩ hl.1 rfl (Nat.le_of_ble_eq_true rfl) dX9_put_33 (fun r16 z15 H locs hw h => ?_)
      exact rt_i (pc := 36) C hr hlk h hw dX9_put_36
  · have hw := hw.2 c4
    refine lv_aload_n (pc := 13) C.1 C.2.1 dX9_put_13 rfl (lv_at hl 0 rfl) ?_
    refine lv_bipush (v := -2) (pc := 14) C.1 C.2.1 dX9_put_14 (by decide) ?_
    refine cl_vi (pc := 16) (As := [.int ((-2 : Int32))]) (rest := []) C h (m_X9_told l D t a ((-2 : Int32)) z2 _ hw) mw_X9_told lm_X9_162 md_X9_told rcM_0 ⟨by decide, by decide⟩ ⟨Nat.zero_le _, Nat.zero_le _⟩ hl.1 rfl (Nat.le_of_ble_eq_true rfl) dX9_put_16 (fun r18 z17 H locs hw h => ?_)
    exact rt_i (pc := 19) C hr hlk h hw dX9_put_19

def wp_X9_costAt (b1 : Int32) (b2 : Int32) (b3 : Int32) (z : St) (P : Int64 → St → Prop) : Prop :=
  (∀ K3 : Int64 → Int32 → St → Prop, (∀ (v1 : Int64) (v2 : Int32) (z4 : St), (vp_in b1 16 ∧ ((((gF z4 9 b1.toNatClampNeg) ≤ v2) → P v1 z4) ∧ (¬ ((gF z4 9 b1.toNatClampNeg) ≤ v2) → (((((168 : Int32)) ≤ (b2 + v2)) → P v1 z4) ∧ (¬ (((168 : Int32)) ≤ (b2 + v2)) → (vp_in ((((4 : Int32)) * b1) + v2) 64 ∧ (wp_X9_priceOf (b2 + v2) b3 z4 (fun r8 z7 => (∀ x9 : Int64, x9 = v1 + ((Int32.toInt64 (gF z4 10 ((((4 : Int32)) * b1) + v2).toNatClampNeg)) * (Int32.toInt64 r8)) → (∀ x10 : Int32, x10 = v2 + (1) → K3 x9 x10 z7)))))))))) → K3 v1 v2 z4) → K3 ((0 : Int64)) ((0 : Int32)) z)
set_option maxHeartbeats 4000000 in
set_option maxRecDepth 100000 in
theorem m_X9_costAt (l : Launch) (D : va_G) (t : Ty3) (a : Nat → Nat) (b1 : Int32) (b2 : Int32) (b3 : Int32) (z : St) (P : Int64 → St → Prop) (hw : wp_X9_costAt b1 b2 b3 z P) : CtL l D t yX9_costAt cX9_costAt 7 (some .long) 1 (wM t a) (wM t a z) [.ref (a 0), .int b1, .int b2, .int b3] P := by
  refine ctL_of (by decide) (Nat.le_of_ble_eq_true rfl) ?_
  intro p e s m args below meth c A ls C hr hlk h hl
  have hl : lv_has ls 7 [(0, .ref (a 0)), (1, .int b1), (2, .int b2), (3, .int b3)] := hl
  unfold wp_X9_costAt at hw
  refine lv_lconst (v := 0) (pc := 0) C.1 C.2.1 dX9_costAt_0 (by decide) ?_
  refine lv_lstore (lv' := [(4, .long ((0 : Int64))), (0, .ref (a 0)), (1, .int b1), (2, .int b2), (3, .int b3)]) (pc := 1) C.1 C.2.1 dX9_costAt_1 hl (by decide) rfl (fun ls hl => ?_)
  refine lv_iconst (v := 0) (pc := 3) C.1 C.2.1 dX9_costAt_3 (by decide) ?_
  have hw := hw (fun (v1 : Int64) (v2 : Int32) (z4 : St) => ∀ (H : Heap) (locs : List Loc) (ls : Array Slot), wd D t A s (wM t a z4) H locs → lv_has ls 7 [(0, .ref (a 0)), (1, .int b1), (2, .int b2), (3, .int b3), (4, .long v1), (6, .int v2)] → W p l e (rmd 1) s m args below meth c H locs 0 0 (QL D t A (wM t a) P below args s) (F0 m 6 ls [])) (by
      intro v1 v2 z4 hw H locs ls h hl
      refine lv_iload (pc := 6) C.1 C.2.1 dX9_costAt_6 (lv_at hl 5 rfl) ?_
      refine lv_aload_n (pc := 8) C.1 C.2.1 dX9_costAt_8 rfl (lv_at hl 0 rfl) ?_
      refine GM_X9_42_0 (pc := 9) C h dX9_costAt_9 ?_
      refine lv_iload_n (pc := 12) C.1 C.2.1 dX9_costAt_12 rfl (lv_at hl 1 rfl) ?_
      refine ldM_9 (pc := 13) C h hw.1 dX9_costAt_13 ?_
      have hw := hw.2
      refine lv_icmp_ge (tgt := 61) (pc := 14) C.1 C.2.1 dX9_costAt_14 (by decide) (fun c5 => ?_) (fun c5 => ?_)
      · have hw := hw.1 c5
        refine lv_lload (pc := 61) C.1 C.2.1 dX9_costAt_61 (lv_at hl 4 rfl) ?_
        exact rt_l (pc := 63) C hr hlk h hw dX9_costAt_63
      · have hw := hw.2 c5
        refine lv_iload_n (pc := 17) C.1 C.2.1 dX9_costAt_17 rfl (lv_at hl 2 rfl) ?_
        refine lv_iload (pc := 18) C.1 C.2.1 dX9_costAt_18 (lv_at hl 5 rfl) ?_
        refine lv_iadd (pc := 20) C.1 C.2.1 dX9_costAt_20 ?_
        refine lv_sipush (v := 168) (pc := 21) C.1 C.2.1 dX9_costAt_21 (by decide) ?_
        refine lv_icmp_ge (tgt := 61) (pc := 24) C.1 C.2.1 dX9_costAt_24 (by decide) (fun c6 => ?_) (fun c6 => ?_)
        · have hw := hw.1 c6
          refine lv_lload (pc := 61) C.1 C.2.1 dX9_costAt_61 (lv_at hl 4 rfl) ?_
          exact rt_l (pc := 63) C hr hlk h hw dX9_costAt_63
        · have hw := hw.2 c6
          refine lv_lload (pc := 27) C.1 C.2.1 dX9_costAt_27 (lv_at hl 4 rfl) ?_
          refine lv_aload_n (pc := 29) C.1 C.2.1 dX9_costAt_29 rfl (lv_at hl 0 rfl) ?_
          refine GM_X9_45_0 (pc := 30) C h dX9_costAt_30 ?_
          refine lv_iconst (v := 4) (pc := 33) C.1 C.2.1 dX9_costAt_33 (by decide) ?_
          refine lv_iload_n (pc := 34) C.1 C.2.1 dX9_costAt_34 rfl (lv_at hl 1 rfl) ?_
          refine lv_imul (pc := 35) C.1 C.2.1 dX9_costAt_35 ?_
          refine lv_iload (pc := 36) C.1 C.2.1 dX9_costAt_36 (lv_at hl 5 rfl) ?_
          refine lv_iadd (pc := 38) C.1 C.2.1 dX9_costAt_38 ?_
          refine ldM_10 (pc := 39) C h hw.1 dX9_costAt_39 ?_
          have hw := hw.2
          refine lv_i2l (pc := 40) C.1 C.2.1 dX9_costAt_40 rfl ?_
          refine lv_aload_n (pc := 41) C.1 C.2.1 dX9_costAt_41 rfl (lv_at hl 0 rfl) ?_
          refine lv_iload_n (pc := 42) C.1 C.2.1 dX9_costAt_42 rfl (lv_at hl 2 rfl) ?_
          refine lv_iload (pc := 43) C.1 C.2.1 dX9_costAt_43 (lv_at hl 5 rfl) ?_
          refine lv_iadd (pc := 45) C.1 C.2.1 dX9_costAt_45 ?_
          refine lv_iload_n (pc := 46) C.1 C.2.1 dX9_costAt_46 rfl (lv_at hl 3 rfl) ?_
          refine cl_vi (pc := 47) (As := [.int (b2 + v2), .int b3]) (rest := [.long (Int32.toInt64 (gF z4 10 ((((4 : Int32)) * b1) + v2).toNatClampNeg)), .long v1]) C h (m_X9_priceOf l D t a (b2 + v2) b3 z4 _ hw) mw_X9_priceOf lm_X9_176 md_X9_priceOf rcM_0 ⟨by decide, by decide⟩ ⟨Nat.zero_le _, Nat.zero_le _⟩ hl.1 rfl (Nat.le_of_ble_eq_true rfl) dX9_costAt_47 (fun r8 z7 H locs hw h => ?_)
          refine lv_i2l (pc := 50) C.1 C.2.1 dX9_costAt_50 rfl ?_
          refine lv_lmul (pc := 51) C.1 C.2.1 dX9_costAt_51 ?_
          refine lv_ladd (pc := 52) C.1 C.2.1 dX9_costAt_52 ?_
          refine lv_topl (fun x9 ex9 => ?_)
          have hw := hw x9 ex9
          refine lv_lstore (lv' := [(4, .long x9), (0, .ref (a 0)), (1, .int b1), (2, .int b2), (3, .int b3), (6, .int v2)]) (pc := 53) C.1 C.2.1 dX9_costAt_53 hl (by decide) rfl (fun ls hl => ?_)
          obtain ⟨x10, ex10⟩ : ∃ y : Int32, y = v2 + (1) := ⟨_, rfl⟩
          have hw := hw x10 ex10
          refine lv_iinc (v := x10) (lv' := [(6, .int x10), (4, .long x9), (0, .ref (a 0)), (1, .int b1), (2, .int b2), (3, .int b3)]) (pc := 55) C.1 C.2.1 dX9_costAt_55 hl (k := 5) rfl (by rw [ex10]; rfl) (by decide) rfl (fun ls hl => ?_)
          refine lv_goto (tgt := 6) (pc := 58) C.1 C.2.1 dX9_costAt_58 (by decide) ?_
          exact hw _ _ _ h (lv_sub hl [2, 3, 4, 5, 1, 0] rfl))
  refine lv_istore (lv' := [(6, .int ((0 : Int32))), (4, .long ((0 : Int64))), (0, .ref (a 0)), (1, .int b1), (2, .int b2), (3, .int b3)]) (pc := 4) C.1 C.2.1 dX9_costAt_4 hl (by decide) rfl (fun ls hl => ?_)
  exact hw _ _ _ h (lv_sub hl [2, 3, 4, 5, 1, 0] rfl)

def wp_X9_findLeast (b1 : Int32) (z : St) (P : St → Prop) : Prop :=
  (vp_in b1 6 ∧ (∀ z1 : St, z1 = wL z 22 (vp_updL (gG z 22) b1.toNatClampNeg ((0 : Int64))) → (∀ K3 : Int32 → St → Prop, (∀ (v2 : Int32) (z4 : St), (((v2 < 0) → P z4) ∧ (¬ (v2 < 0) → (vp_in v2 5 ∧ (∀ x6 : Int32, x6 = gF z4 18 v2.toNatClampNeg → (vp_in x6 16 ∧ (∀ K11 : Int32 → Int32 → Int64 → Int32 → St → Prop, (∀ (v7 : Int32) (v8 : Int32) (v9 : Int64) (v10 : Int32) (z12 : St), (vp_in v8 16 ∧ ((((gF z12 8 v8.toNatClampNeg) < v10) → (vp_in (v7 + ((1 : Int32))) 6 ∧ (vp_in v7 6 ∧ (∀ z14 : St, z14 = wL z12 22 (vp_updL (gG z12 22) v7.toNatClampNeg (v9 + (gG z12 22 (v7 + ((1 : Int32))).toNatClampNeg))) → (∀ x15 : Int32, x15 = v7 + (-1) → K3 x15 z14))))) ∧ (¬ ((gF z12 8 v8.toNatClampNeg) < v10) → (wp_X9_costAt v8 v10 (gI z12 2) z12 (fun r17 z16 => (vp_in v8 16 ∧ (vp_in (((((24 : Int32)) * v7) + v10) - (gF z16 7 v8.toNatClampNeg)) 120 ∧ (∀ z18 : St, z18 = wL z16 21 (vp_updL (gG z16 21) (((((24 : Int32)) * v7) + v10) - (gF z16 7 v8.toNatClampNeg)).toNatClampNeg r17) → (vp_in v8 16 ∧ (∀ K23 : Int32 → Int32 → Int32 → Int64 → St → Prop, (∀ (v19 : Int32) (v20 : Int32) (v21 : Int32) (s22 : Int64) (z24 : St), (∀ x25 : Int32, x25 = v21 + (1) → K11 v19 v20 s22 x25 z24) → K23 v19 v20 v21 s22 z24) → (∀ K30 : Int32 → Int32 → Int32 → Int64 → St → Prop, (∀ (v26 : Int32) (v27 : Int32) (v28 : Int32) (v29 : Int64) (z31 : St), K23 v26 v27 v28 v29 z31 → K30 v26 v27 v28 v29 z31) → (((v10 = (gF z18 7 v8.toNatClampNeg)) → K30 v7 v8 v10 r17 z18) ∧ (¬ (v10 = (gF z18 7 v8.toNatClampNeg)) → (((0 ≤ (lg_cmp r17 v9)) → K23 v7 v8 v10 v9 z18) ∧ (¬ (0 ≤ (lg_cmp r17 v9)) → K30 v7 v8 v10 r17 z18))))))))))))))) → K11 v7 v8 v9 v10 z12) → (∀ x34 : Int32, x34 = gF z4 7 x6.toNatClampNeg → K11 v2 x6 ((0 : Int64)) x34 z4))))))) → K3 v2 z4) → (∀ x35 : Int32, x35 = b1 - ((1 : Int32)) → K3 x35 z1))))
set_option maxHeartbeats 4000000 in
set_option maxRecDepth 100000 in
theorem m_X9_findLeast (l : Launch) (D : va_G) (t : Ty3) (a : Nat → Nat) (b1 : Int32) (z : St) (P : St → Prop) (hw : wp_X9_findLeast b1 z P) : CtV l D t yX9_findLeast cX9_findLeast 9 none 2 (wM t a) (wM t a z) [.ref (a 0), .int b1] P := by
  refine ctV_of (by decide) (Nat.le_of_ble_eq_true rfl) ?_
  intro p e s m args below meth c A ls C hr hlk h hl
  have hl : lv_has ls 9 [(0, .ref (a 0)), (1, .int b1)] := hl
  unfold wp_X9_findLeast at hw
  refine lv_aload_n (pc := 0) C.1 C.2.1 dX9_findLeast_0 rfl (lv_at hl 0 rfl) ?_
  refine GM_X9_82_0 (pc := 1) C h dX9_findLeast_1 ?_
  refine lv_iload_n (pc := 4) C.1 C.2.1 dX9_findLeast_4 rfl (lv_at hl 1 rfl) ?_
  refine lv_lconst (v := 0) (pc := 5) C.1 C.2.1 dX9_findLeast_5 (by decide) ?_
  refine stM_22 (pc := 6) C h hw.1 dX9_findLeast_6 (fun z1 ez1 H locs h => ?_)
  have hw := hw.2 z1 ez1
  refine lv_iload_n (pc := 7) C.1 C.2.1 dX9_findLeast_7 rfl (lv_at hl 1 rfl) ?_
  refine lv_iconst (v := 1) (pc := 8) C.1 C.2.1 dX9_findLeast_8 (by decide) ?_
  refine lv_isub (pc := 9) C.1 C.2.1 dX9_findLeast_9 ?_
  have hw := hw (fun (v2 : Int32) (z4 : St) => ∀ (H : Heap) (locs : List Loc) (ls : Array Slot), wd D t A s (wM t a z4) H locs → lv_has ls 9 [(0, .ref (a 0)), (2, .int v2)] → W p l e (rmd 2) s m args below meth c H locs 0 0 (QV D t A (wM t a) P below args s) (F0 m 11 ls [])) (by
      intro v2 z4 hw H locs ls h hl
      refine lv_iload_n (pc := 11) C.1 C.2.1 dX9_findLeast_11 rfl (lv_at hl 1 rfl) ?_
      refine lv_if_lt (tgt := 135) (pc := 12) C.1 C.2.1 dX9_findLeast_12 (by decide) (fun c5 => ?_) (fun c5 => ?_)
      · have hw := hw.1 c5
        exact rt_v (pc := 135) C hr hlk h hw dX9_findLeast_135
      · have hw := hw.2 c5
        refine lv_aload_n (pc := 15) C.1 C.2.1 dX9_findLeast_15 rfl (lv_at hl 0 rfl) ?_
        refine GM_X9_69_0 (pc := 16) C h dX9_findLeast_16 ?_
        refine lv_iload_n (pc := 19) C.1 C.2.1 dX9_findLeast_19 rfl (lv_at hl 1 rfl) ?_
        refine ldM_18 (pc := 20) C h hw.1 dX9_findLeast_20 ?_
        have hw := hw.2
        refine lv_topi (fun x6 ex6 => ?_)
        have hw := hw x6 ex6
        refine lv_istore_n (lv' := [(3, .int x6), (0, .ref (a 0)), (2, .int v2)]) (pc := 21) C.1 C.2.1 dX9_findLeast_21 rfl hl (by decide) rfl (fun ls hl => ?_)
        refine lv_lconst (v := 0) (pc := 22) C.1 C.2.1 dX9_findLeast_22 (by decide) ?_
        refine lv_lstore (lv' := [(4, .long ((0 : Int64))), (3, .int x6), (0, .ref (a 0)), (2, .int v2)]) (pc := 23) C.1 C.2.1 dX9_findLeast_23 hl (by decide) rfl (fun ls hl => ?_)
        refine lv_aload_n (pc := 25) C.1 C.2.1 dX9_findLeast_25 rfl (lv_at hl 2 rfl) ?_
        refine GM_X9_36_0 (pc := 26) C h dX9_findLeast_26 ?_
        refine lv_iload_n (pc := 29) C.1 C.2.1 dX9_findLeast_29 rfl (lv_at hl 1 rfl) ?_
        refine ldM_7 (pc := 30) C h hw.1 dX9_findLeast_30 ?_
        have hw := hw.2
        have hw := hw (fun (v7 : Int32) (v8 : Int32) (v9 : Int64) (v10 : Int32) (z12 : St) => ∀ (H : Heap) (locs : List Loc) (ls : Array Slot), wd D t A s (wM t a z12) H locs → lv_has ls 9 [(0, .ref (a 0)), (2, .int v7), (3, .int v8), (4, .long v9), (6, .int v10)] → W p l e (rmd 2) s m args below meth c H locs 0 0 (QV D t A (wM t a) P below args s) (F0 m 33 ls [])) (by
            intro v7 v8 v9 v10 z12 hw H locs ls h hl
            refine lv_iload (pc := 33) C.1 C.2.1 dX9_findLeast_33 (lv_at hl 4 rfl) ?_
            refine lv_aload_n (pc := 35) C.1 C.2.1 dX9_findLeast_35 rfl (lv_at hl 0 rfl) ?_
            refine GM_X9_39_0 (pc := 36) C h dX9_findLeast_36 ?_
            refine lv_iload_n (pc := 39) C.1 C.2.1 dX9_findLeast_39 rfl (lv_at hl 2 rfl) ?_
            refine ldM_8 (pc := 40) C h hw.1 dX9_findLeast_40 ?_
            have hw := hw.2
            refine lv_icmp_gt (tgt := 112) (pc := 41) C.1 C.2.1 dX9_findLeast_41 (by decide) (fun c13 => ?_) (fun c13 => ?_)
            · have hw := hw.1 c13
              refine lv_aload_n (pc := 112) C.1 C.2.1 dX9_findLeast_112 rfl (lv_at hl 0 rfl) ?_
              refine GM_X9_82_0 (pc := 113) C h dX9_findLeast_113 ?_
              refine lv_iload_n (pc := 116) C.1 C.2.1 dX9_findLeast_116 rfl (lv_at hl 1 rfl) ?_
              refine lv_lload (pc := 117) C.1 C.2.1 dX9_findLeast_117 (lv_at hl 3 rfl) ?_
              refine lv_aload_n (pc := 119) C.1 C.2.1 dX9_findLeast_119 rfl (lv_at hl 0 rfl) ?_
              refine GM_X9_82_0 (pc := 120) C h dX9_findLeast_120 ?_
              refine lv_iload_n (pc := 123) C.1 C.2.1 dX9_findLeast_123 rfl (lv_at hl 1 rfl) ?_
              refine lv_iconst (v := 1) (pc := 124) C.1 C.2.1 dX9_findLeast_124 (by decide) ?_
              refine lv_iadd (pc := 125) C.1 C.2.1 dX9_findLeast_125 ?_
              refine ldM_22 (pc := 126) C h hw.1 dX9_findLeast_126 ?_
              have hw := hw.2
              refine lv_ladd (pc := 127) C.1 C.2.1 dX9_findLeast_127 ?_
              refine stM_22 (pc := 128) C h hw.1 dX9_findLeast_128 (fun z14 ez14 H locs h => ?_)
              have hw := hw.2 z14 ez14
              obtain ⟨x15, ex15⟩ : ∃ y : Int32, y = v7 + (-1) := ⟨_, rfl⟩
              have hw := hw x15 ex15
              refine lv_iinc (v := x15) (lv' := [(2, .int x15), (0, .ref (a 0)), (3, .int v8), (4, .long v9), (6, .int v10)]) (pc := 129) C.1 C.2.1 dX9_findLeast_129 hl (k := 1) rfl (by rw [ex15]; rfl) (by decide) rfl (fun ls hl => ?_)
              refine lv_goto (tgt := 11) (pc := 132) C.1 C.2.1 dX9_findLeast_132 (by decide) ?_
              exact hw _ _ _ h (lv_sub hl [1, 0] rfl)
            · have hw := hw.2 c13
              refine lv_aload_n (pc := 44) C.1 C.2.1 dX9_findLeast_44 rfl (lv_at hl 0 rfl) ?_
              refine lv_iload_n (pc := 45) C.1 C.2.1 dX9_findLeast_45 rfl (lv_at hl 2 rfl) ?_
              refine lv_iload (pc := 46) C.1 C.2.1 dX9_findLeast_46 (lv_at hl 4 rfl) ?_
              refine lv_aload_n (pc := 48) C.1 C.2.1 dX9_findLeast_48 rfl (lv_at hl 0 rfl) ?_
              refine GM_X9_173_0 (pc := 49) C h dX9_findLeast_49 ?_
              refine cl_vl (pc := 52) (As := [.int v8, .int v10, .int (gI z12 2)]) (rest := []) C h (m_X9_costAt l D t a v8 v10 (gI z12 2) z12 _ hw) mw_X9_costAt lm_X9_233 md_X9_costAt rcM_0 ⟨by decide, by decide⟩ ⟨Nat.zero_le _, Nat.zero_le _⟩ hl.1 rfl (Nat.le_of_ble_eq_true rfl) dX9_findLeast_52 (fun r17 z16 H locs hw h => ?_)
              refine lv_lstore (lv' := [(7, .long r17), (0, .ref (a 0)), (2, .int v7), (3, .int v8), (4, .long v9), (6, .int v10)]) (pc := 55) C.1 C.2.1 dX9_findLeast_55 hl (by decide) rfl (fun ls hl => ?_)
              refine lv_aload_n (pc := 57) C.1 C.2.1 dX9_findLeast_57 rfl (lv_at hl 1 rfl) ?_
              refine GM_X9_78_0 (pc := 58) C h dX9_findLeast_58 ?_
              refine lv_bipush (v := 24) (pc := 61) C.1 C.2.1 dX9_findLeast_61 (by decide) ?_
              refine lv_iload_n (pc := 63) C.1 C.2.1 dX9_findLeast_63 rfl (lv_at hl 2 rfl) ?_
              refine lv_imul (pc := 64) C.1 C.2.1 dX9_findLeast_64 ?_
              refine lv_iload (pc := 65) C.1 C.2.1 dX9_findLeast_65 (lv_at hl 5 rfl) ?_
              refine lv_iadd (pc := 67) C.1 C.2.1 dX9_findLeast_67 ?_
              refine lv_aload_n (pc := 68) C.1 C.2.1 dX9_findLeast_68 rfl (lv_at hl 1 rfl) ?_
              refine GM_X9_36_0 (pc := 69) C h dX9_findLeast_69 ?_
              refine lv_iload_n (pc := 72) C.1 C.2.1 dX9_findLeast_72 rfl (lv_at hl 3 rfl) ?_
              refine ldM_7 (pc := 73) C h hw.1 dX9_findLeast_73 ?_
              have hw := hw.2
              refine lv_isub (pc := 74) C.1 C.2.1 dX9_findLeast_74 ?_
              refine lv_lload (pc := 75) C.1 C.2.1 dX9_findLeast_75 (lv_at hl 0 rfl) ?_
              refine stM_21 (pc := 77) C h hw.1 dX9_findLeast_77 (fun z18 ez18 H locs h => ?_)
              have hw := hw.2 z18 ez18
              refine lv_iload (pc := 78) C.1 C.2.1 dX9_findLeast_78 (lv_at hl 5 rfl) ?_
              refine lv_aload_n (pc := 80) C.1 C.2.1 dX9_findLeast_80 rfl (lv_at hl 1 rfl) ?_
              refine GM_X9_36_0 (pc := 81) C h dX9_findLeast_81 ?_
              refine lv_iload_n (pc := 84) C.1 C.2.1 dX9_findLeast_84 rfl (lv_at hl 3 rfl) ?_
              refine ldM_7 (pc := 85) C h hw.1 dX9_findLeast_85 ?_
              have hw := hw.2
              have hw := hw (fun (v19 : Int32) (v20 : Int32) (v21 : Int32) (s22 : Int64) (z24 : St) => ∀ (H : Heap) (locs : List Loc) (ls : Array Slot), wd D t A s (wM t a z24) H locs → lv_has ls 9 [(0, .ref (a 0)), (2, .int v19), (3, .int v20), (6, .int v21)] → W p l e (rmd 2) s m args below meth c H locs 0 0 (QV D t A (wM t a) P below args s) (F0 m 104 ls [.long s22])) (by
                  intro v19 v20 v21 s22 z24 hw H locs ls h hl
                  refine lv_lstore (lv' := [(4, .long s22), (0, .ref (a 0)), (2, .int v19), (3, .int v20), (6, .int v21)]) (pc := 104) C.1 C.2.1 dX9_findLeast_104 hl (by decide) rfl (fun ls hl => ?_)
                  obtain ⟨x25, ex25⟩ : ∃ y : Int32, y = v21 + (1) := ⟨_, rfl⟩
                  have hw := hw x25 ex25
                  refine lv_iinc (v := x25) (lv' := [(6, .int x25), (4, .long s22), (0, .ref (a 0)), (2, .int v19), (3, .int v20)]) (pc := 106) C.1 C.2.1 dX9_findLeast_106 hl (k := 4) rfl (by rw [ex25]; rfl) (by decide) rfl (fun ls hl => ?_)
                  refine lv_goto (tgt := 33) (pc := 109) C.1 C.2.1 dX9_findLeast_109 (by decide) ?_
                  exact hw _ _ _ h (lv_sub hl [2, 3, 4, 1, 0] rfl))
              have hw := hw (fun (v26 : Int32) (v27 : Int32) (v28 : Int32) (v29 : Int64) (z31 : St) => ∀ (H : Heap) (locs : List Loc) (ls : Array Slot), wd D t A s (wM t a z31) H locs → lv_has ls 9 [(0, .ref (a 0)), (2, .int v26), (3, .int v27), (6, .int v28), (7, .long v29)] → W p l e (rmd 2) s m args below meth c H locs 0 0 (QV D t A (wM t a) P below args s) (F0 m 97 ls [])) (by
                  intro v26 v27 v28 v29 z31 hw H locs ls h hl
                  refine lv_lload (pc := 97) C.1 C.2.1 dX9_findLeast_97 (lv_at hl 4 rfl) ?_
                  refine lv_goto (tgt := 104) (pc := 99) C.1 C.2.1 dX9_findLeast_99 (by decide) ?_
                  exact hw _ _ _ h (lv_sub hl [0, 1, 2, 3] rfl))
              refine lv_icmp_eq (tgt := 97) (pc := 86) C.1 C.2.1 dX9_findLeast_86 (by decide) (fun c32 => ?_) (fun c32 => ?_)
              · have hw := hw.1 c32
                exact hw _ _ _ h (lv_sub hl [1, 2, 3, 5, 0] rfl)
              · have hw := hw.2 c32
                refine lv_lload (pc := 89) C.1 C.2.1 dX9_findLeast_89 (lv_at hl 0 rfl) ?_
                refine lv_lload (pc := 91) C.1 C.2.1 dX9_findLeast_91 (lv_at hl 4 rfl) ?_
                refine W.lcmp (pc := 93) C.1 C.2.1 dX9_findLeast_93 ?_
                refine lv_if_ge (tgt := 102) (pc := 94) C.1 C.2.1 dX9_findLeast_94 (by decide) (fun c33 => ?_) (fun c33 => ?_)
                · have hw := hw.1 c33
                  refine lv_lload (pc := 102) C.1 C.2.1 dX9_findLeast_102 (lv_at hl 4 rfl) ?_
                  exact hw _ _ _ h (lv_sub hl [1, 2, 3, 5] rfl)
                · have hw := hw.2 c33
                  exact hw _ _ _ h (lv_sub hl [1, 2, 3, 5, 0] rfl))
        refine lv_topi (fun x34 ex34 => ?_)
        have hw := hw x34 ex34
        refine lv_istore (lv' := [(6, .int x34), (4, .long ((0 : Int64))), (3, .int x6), (0, .ref (a 0)), (2, .int v2)]) (pc := 31) C.1 C.2.1 dX9_findLeast_31 hl (by decide) rfl (fun ls hl => ?_)
        exact hw _ _ _ h (lv_sub hl [3, 4, 2, 1, 0] rfl))
  refine lv_topi (fun x35 ex35 => ?_)
  have hw := hw x35 ex35
  refine lv_istore_n (lv' := [(2, .int x35), (0, .ref (a 0)), (1, .int b1)]) (pc := 10) C.1 C.2.1 dX9_findLeast_10 rfl hl (by decide) rfl (fun ls hl => ?_)
  exact hw _ _ _ h (lv_sub hl [1, 0] rfl)

def wp_X9_search (b1 : Int32) (z : St) (P : Int64 → St → Prop) : Prop :=
  (wp_X9_findLeast b1 z (fun z1 => (∀ K8 : Int64 → Int32 → Int64 → Int32 → Int32 → St → Prop, (∀ (v3 : Int64) (v4 : Int32) (v5 : Int64) (v6 : Int32) (s7 : Int32) (z9 : St), (∀ K15 : Int64 → Int32 → Int64 → Int32 → Int32 → St → Prop, (∀ (v10 : Int64) (v11 : Int32) (v12 : Int64) (v13 : Int32) (v14 : Int32) (z16 : St), (((v13 < 0) → (((v11 = 0) → P ((-4000000000000000000 : Int64)) z16) ∧ (¬ (v11 = 0) → P v10 z16))) ∧ (¬ (v13 < 0) → (vp_in v13 5 ∧ (∀ x19 : Int32, x19 = gF z16 18 v13.toNatClampNeg → (∀ K27 : Int64 → Int32 → Int64 → Int32 → Int32 → Int32 → Int32 → St → Prop, (∀ (v20 : Int64) (v21 : Int32) (v22 : Int64) (v23 : Int32) (v24 : Int32) (v25 : Int32) (v26 : Int32) (z28 : St), (vp_in v25 16 ∧ (∀ K36 : Int64 → Int32 → Int64 → Int32 → Int32 → Int32 → Int32 → St → Prop, (∀ (v29 : Int64) (v30 : Int32) (v31 : Int64) (v32 : Int32) (v33 : Int32) (v34 : Int32) (v35 : Int32) (z37 : St), (∀ K43 : Int64 → Int32 → Int64 → Int32 → Int32 → St → Prop, (∀ (v38 : Int64) (v39 : Int32) (v40 : Int64) (v41 : Int32) (v42 : Int32) (z44 : St), (∀ K50 : Int64 → Int32 → Int64 → Int32 → Int32 → St → Prop, (∀ (v45 : Int64) (v46 : Int32) (v47 : Int64) (v48 : Int32) (v49 : Int32) (z51 : St), K15 v45 v46 v47 v48 v49 z51 → K50 v45 v46 v47 v48 v49 z51) → (((v41 < 0) → K50 v38 v39 v40 v41 v42 z44) ∧ (¬ (v41 < 0) → (vp_in v41 5 ∧ (∀ x53 : Int32, x53 = gF z44 18 v41.toNatClampNeg → (vp_in x53 16 ∧ (vp_in x53 16 ∧ (vp_in (((((24 : Int32)) * v41) + (gF z44 12 x53.toNatClampNeg)) - (gF z44 7 x53.toNatClampNeg)) 120 ∧ (∀ x54 : Int64, x54 = v40 - (gG z44 21 (((((24 : Int32)) * v41) + (gF z44 12 x53.toNatClampNeg)) - (gF z44 7 x53.toNatClampNeg)).toNatClampNeg) → (vp_in x53 16 ∧ (∀ z55 : St, z55 = wR z44 11 (upd (gF z44 11) x53.toNatClampNeg ((0 : Int32))) → (vp_in x53 16 ∧ (∀ x56 : Int32, x56 = (gF z55 12 x53.toNatClampNeg) + ((1 : Int32)) → K50 v38 v39 x54 v41 x56 z55))))))))))))) → K43 v38 v39 v40 v41 v42 z44) → (((v35 = 0) → (∀ x58 : Int32, x58 = v32 + (-1) → K43 v29 v30 v31 x58 v33 z37)) ∧ (¬ (v35 = 0) → (vp_in v34 16 ∧ (∀ z59 : St, z59 = wR z37 11 (upd (gF z37 11) v34.toNatClampNeg ((1 : Int32))) → (vp_in v34 16 ∧ (∀ z60 : St, z60 = wR z59 12 (upd (gF z59 12) v34.toNatClampNeg v33) → (vp_in v34 16 ∧ (vp_in (((((24 : Int32)) * v32) + v33) - (gF z60 7 v34.toNatClampNeg)) 120 ∧ (∀ x61 : Int64, x61 = v31 + (gG z60 21 (((((24 : Int32)) * v32) + v33) - (gF z60 7 v34.toNatClampNeg)).toNatClampNeg) → (((¬ v32 = (b1 - ((1 : Int32)))) → (∀ x63 : Int32, x63 = v32 + (1) → (vp_in x63 5 ∧ (vp_in (gF z60 18 x63.toNatClampNeg) 16 ∧ (∀ x64 : Int32, x64 = gF z60 7 (gF z60 18 x63.toNatClampNeg).toNatClampNeg → K15 v29 v30 x61 x63 x64 z60))))) ∧ (v32 = (b1 - ((1 : Int32))) → (∀ K71 : Int64 → Int32 → Int64 → Int32 → Int32 → Int32 → St → Prop, (∀ (v65 : Int64) (v66 : Int32) (v67 : Int64) (v68 : Int32) (v69 : Int32) (v70 : Int32) (z72 : St), (((b1 ≤ v70) → K43 v65 v66 v67 v68 v69 z72) ∧ (¬ (b1 ≤ v70) → (vp_in v70 5 ∧ (vp_in (gF z72 18 v70.toNatClampNeg) 16 ∧ (vp_in v70 5 ∧ (∀ z74 : St, z74 = wR z72 23 (upd (gF z72 23) v70.toNatClampNeg (gF z72 12 (gF z72 18 v70.toNatClampNeg).toNatClampNeg)) → (∀ x75 : Int32, x75 = v70 + (1) → K71 v65 v66 v67 v68 v69 x75 z74))))))) → K71 v65 v66 v67 v68 v69 v70 z72) → K71 x61 ((1 : Int32)) x61 v32 v33 ((0 : Int32)) z60))))))))))))) → K36 v29 v30 v31 v32 v33 v34 v35 z37) → ((((gF z28 8 v25.toNatClampNeg) < v24) → K36 v20 v21 v22 v23 v24 v25 v26 z28) ∧ (¬ ((gF z28 8 v25.toNatClampNeg) < v24) → (((¬ v26 = 0) → K36 v20 v21 v22 v23 v24 v25 v26 z28) ∧ (v26 = 0 → (vp_in v25 16 ∧ (vp_in (((((24 : Int32)) * v23) + v24) - (gF z28 7 v25.toNatClampNeg)) 120 ∧ (∀ x78 : Int64, x78 = v22 + (gG z28 21 (((((24 : Int32)) * v23) + v24) - (gF z28 7 v25.toNatClampNeg)).toNatClampNeg) → (∀ K86 : Int64 → Int32 → Int64 → Int32 → Int32 → Int32 → Int32 → St → Prop, (∀ (v79 : Int64) (v80 : Int32) (v81 : Int64) (v82 : Int32) (v83 : Int32) (v84 : Int32) (s85 : Int32) (z87 : St), (∀ K96 : Int64 → Int32 → Int64 → Int32 → Int32 → Int32 → Int32 → Int32 → St → Prop, (∀ (v88 : Int64) (v89 : Int32) (v90 : Int64) (v91 : Int32) (v92 : Int32) (v93 : Int32) (s94 : Int32) (s95 : Int32) (z97 : St), (∀ x98 : Int32, x98 = s95 + s94 → K27 v88 v89 v90 v91 x98 v92 v93 z97) → K96 v88 v89 v90 v91 v92 v93 s94 s95 z97) → (((s85 = 0) → K96 v79 v80 v81 v82 v84 s85 ((1 : Int32)) v83 z87) ∧ (¬ (s85 = 0) → K96 v79 v80 v81 v82 v84 s85 ((0 : Int32)) v83 z87))) → K86 v79 v80 v81 v82 v83 v84 s85 z87) → (∀ K106 : Int64 → Int32 → Int64 → Int32 → Int32 → Int32 → St → Prop, (∀ (v100 : Int64) (v101 : Int32) (v102 : Int64) (v103 : Int32) (v104 : Int32) (v105 : Int32) (z107 : St), K86 v100 v101 v102 v103 v104 v105 ((0 : Int32)) z107 → K106 v100 v101 v102 v103 v104 v105 z107) → (∀ K114 : Int64 → Int32 → Int64 → Int32 → Int32 → Int32 → St → Prop, (∀ (v108 : Int64) (v109 : Int32) (v110 : Int64) (v111 : Int32) (v112 : Int32) (v113 : Int32) (z115 : St), (wp_X9_mayBegin v113 v112 z115 (fun r117 z116 => (((r117 = 0) → K106 v108 v109 v110 v111 v112 v113 z116) ∧ (¬ (r117 = 0) → K86 v108 v109 v110 v111 v112 v113 ((1 : Int32)) z116)))) → K114 v108 v109 v110 v111 v112 v113 z115) → (((v21 = 0) → K114 v20 v21 v22 v23 v24 v25 z28) ∧ (¬ (v21 = 0) → (vp_in (v23 + ((1 : Int32))) 6 ∧ (((0 ≤ (lg_cmp (x78 + (gG z28 22 (v23 + ((1 : Int32))).toNatClampNeg)) v20)) → K106 v20 v21 v22 v23 v24 v25 z28) ∧ (¬ (0 ≤ (lg_cmp (x78 + (gG z28 22 (v23 + ((1 : Int32))).toNatClampNeg)) v20)) → K114 v20 v21 v22 v23 v24 v25 z28))))))))))))))))) → K27 v20 v21 v22 v23 v24 v25 v26 z28) → K27 v10 v11 v12 v13 v14 x19 ((0 : Int32)) z16))))) → K15 v10 v11 v12 v13 v14 z16) → (((¬ b1 = 0) → K15 v3 v4 v5 v6 s7 z9) ∧ (b1 = 0 → P ((0 : Int64)) z9))) → K8 v3 v4 v5 v6 s7 z9) → (((¬ b1 = 0) → (vp_in ((0 : Int32)) 5 ∧ (vp_in (gF z1 18 ((0 : Int32)).toNatClampNeg) 16 ∧ K8 ((-4000000000000000000 : Int64)) ((0 : Int32)) ((0 : Int64)) ((0 : Int32)) (gF z1 7 (gF z1 18 ((0 : Int32)).toNatClampNeg).toNatClampNeg) z1))) ∧ (b1 = 0 → K8 ((-4000000000000000000 : Int64)) ((0 : Int32)) ((0 : Int64)) ((0 : Int32)) ((0 : Int32)) z1)))))
set_option maxHeartbeats 4000000 in
set_option maxRecDepth 100000 in
theorem m_X9_search (l : Launch) (D : va_G) (t : Ty3) (a : Nat → Nat) (b1 : Int32) (z : St) (P : Int64 → St → Prop) (hw : wp_X9_search b1 z P) : CtL l D t yX9_search cX9_search 13 (some .long) 4 (wM t a) (wM t a z) [.ref (a 0), .int b1] P := by
  refine ctL_of (by decide) (Nat.le_of_ble_eq_true rfl) ?_
  intro p e s m args below meth c A ls C hr hlk h hl
  have hl : lv_has ls 13 [(0, .ref (a 0)), (1, .int b1)] := hl
  unfold wp_X9_search at hw
  refine lv_aload_n (pc := 0) C.1 C.2.1 dX9_search_0 rfl (lv_at hl 0 rfl) ?_
  refine lv_iload_n (pc := 1) C.1 C.2.1 dX9_search_1 rfl (lv_at hl 1 rfl) ?_
  refine cl_vv (pc := 2) (As := [.int b1]) (rest := []) C h (m_X9_findLeast l D t a b1 z _ hw) mw_X9_findLeast lm_X9_237 md_X9_findLeast rcM_0 ⟨by decide, by decide⟩ ⟨Nat.zero_le _, Nat.zero_le _⟩ hl.1 rfl (Nat.le_of_ble_eq_true rfl) dX9_search_2 (fun z1 H locs hw h => ?_)
  refine lv_ldc2 (pc := 5) C.1 C.2.1 C.2.2.2.1 (C.2.2.2.2 _ lc_X9_229) dX9_search_5 ?_
  refine lv_lstore_n (lv' := [(2, .long ((-4000000000000000000 : Int64))), (0, .ref (a 0)), (1, .int b1)]) (pc := 8) C.1 C.2.1 dX9_search_8 rfl hl (by decide) rfl (fun ls hl => ?_)
  refine lv_iconst (v := 0) (pc := 9) C.1 C.2.1 dX9_search_9 (by decide) ?_
  refine lv_istore (lv' := [(4, .int ((0 : Int32))), (2, .long ((-4000000000000000000 : Int64))), (0, .ref (a 0)), (1, .int b1)]) (pc := 10) C.1 C.2.1 dX9_search_10 hl (by decide) rfl (fun ls hl => ?_)
  refine lv_lconst (v := 0) (pc := 12) C.1 C.2.1 dX9_search_12 (by decide) ?_
  refine lv_lstore (lv' := [(5, .long ((0 : Int64))), (4, .int ((0 : Int32))), (2, .long ((-4000000000000000000 : Int64))), (0, .ref (a 0)), (1, .int b1)]) (pc := 13) C.1 C.2.1 dX9_search_13 hl (by decide) rfl (fun ls hl => ?_)
  refine lv_iconst (v := 0) (pc := 15) C.1 C.2.1 dX9_search_15 (by decide) ?_
  refine lv_istore (lv' := [(7, .int ((0 : Int32))), (5, .long ((0 : Int64))), (4, .int ((0 : Int32))), (2, .long ((-4000000000000000000 : Int64))), (0, .ref (a 0)), (1, .int b1)]) (pc := 16) C.1 C.2.1 dX9_search_16 hl (by decide) rfl (fun ls hl => ?_)
  refine lv_iload_n (pc := 18) C.1 C.2.1 dX9_search_18 rfl (lv_at hl 5 rfl) ?_
  have hw := hw (fun (v3 : Int64) (v4 : Int32) (v5 : Int64) (v6 : Int32) (s7 : Int32) (z9 : St) => ∀ (H : Heap) (locs : List Loc) (ls : Array Slot), wd D t A s (wM t a z9) H locs → lv_has ls 13 [(0, .ref (a 0)), (1, .int b1), (2, .long v3), (4, .int v4), (5, .long v5), (7, .int v6)] → W p l e (rmd 4) s m args below meth c H locs 0 0 (QL D t A (wM t a) P below args s) (F0 m 37 ls [.int s7])) (by
      intro v3 v4 v5 v6 s7 z9 hw H locs ls h hl
      refine lv_istore (lv' := [(8, .int s7), (0, .ref (a 0)), (1, .int b1), (2, .long v3), (4, .int v4), (5, .long v5), (7, .int v6)]) (pc := 37) C.1 C.2.1 dX9_search_37 hl (by decide) rfl (fun ls hl => ?_)
      refine lv_iload_n (pc := 39) C.1 C.2.1 dX9_search_39 rfl (lv_at hl 2 rfl) ?_
      have hw := hw (fun (v10 : Int64) (v11 : Int32) (v12 : Int64) (v13 : Int32) (v14 : Int32) (z16 : St) => ∀ (H : Heap) (locs : List Loc) (ls : Array Slot), wd D t A s (wM t a z16) H locs → lv_has ls 13 [(0, .ref (a 0)), (1, .int b1), (2, .long v10), (4, .int v11), (5, .long v12), (7, .int v13), (8, .int v14)] → W p l e (rmd 4) s m args below meth c H locs 0 0 (QL D t A (wM t a) P below args s) (F0 m 45 ls [])) (by
          intro v10 v11 v12 v13 v14 z16 hw H locs ls h hl
          refine lv_iload (pc := 45) C.1 C.2.1 dX9_search_45 (lv_at hl 5 rfl) ?_
          refine lv_if_lt (tgt := 352) (pc := 47) C.1 C.2.1 dX9_search_47 (by decide) (fun c17 => ?_) (fun c17 => ?_)
          · have hw := hw.1 c17
            refine lv_iload (pc := 352) C.1 C.2.1 dX9_search_352 (lv_at hl 3 rfl) ?_
            refine lv_if_eq (tgt := 361) (pc := 354) C.1 C.2.1 dX9_search_354 (by decide) (fun c18 => ?_) (fun c18 => ?_)
            · have hw := hw.1 c18
              refine lv_ldc2 (pc := 361) C.1 C.2.1 C.2.2.2.1 (C.2.2.2.2 _ lc_X9_229) dX9_search_361 ?_
              exact rt_l (pc := 364) C hr hlk h hw dX9_search_364
            · have hw := hw.2 c18
              refine lv_lload_n (pc := 357) C.1 C.2.1 dX9_search_357 rfl (lv_at hl 2 rfl) ?_
              refine lv_goto (tgt := 364) (pc := 358) C.1 C.2.1 dX9_search_358 (by decide) ?_
              exact rt_l (pc := 364) C hr hlk h hw dX9_search_364
          · have hw := hw.2 c17
            refine lv_aload_n (pc := 50) C.1 C.2.1 dX9_search_50 rfl (lv_at hl 0 rfl) ?_
            refine GM_X9_69_0 (pc := 51) C h dX9_search_51 ?_
            refine lv_iload (pc := 54) C.1 C.2.1 dX9_search_54 (lv_at hl 5 rfl) ?_
            refine ldM_18 (pc := 56) C h hw.1 dX9_search_56 ?_
            have hw := hw.2
            refine lv_topi (fun x19 ex19 => ?_)
            have hw := hw x19 ex19
            refine lv_istore (lv' := [(9, .int x19), (0, .ref (a 0)), (1, .int b1), (2, .long v10), (4, .int v11), (5, .long v12), (7, .int v13), (8, .int v14)]) (pc := 57) C.1 C.2.1 dX9_search_57 hl (by decide) rfl (fun ls hl => ?_)
            refine lv_iconst (v := 0) (pc := 59) C.1 C.2.1 dX9_search_59 (by decide) ?_
            have hw := hw (fun (v20 : Int64) (v21 : Int32) (v22 : Int64) (v23 : Int32) (v24 : Int32) (v25 : Int32) (v26 : Int32) (z28 : St) => ∀ (H : Heap) (locs : List Loc) (ls : Array Slot), wd D t A s (wM t a z28) H locs → lv_has ls 13 [(0, .ref (a 0)), (1, .int b1), (2, .long v20), (4, .int v21), (5, .long v22), (7, .int v23), (8, .int v24), (9, .int v25), (10, .int v26)] → W p l e (rmd 4) s m args below meth c H locs 0 0 (QL D t A (wM t a) P below args s) (F0 m 62 ls [])) (by
                intro v20 v21 v22 v23 v24 v25 v26 z28 hw H locs ls h hl
                refine lv_iload (pc := 62) C.1 C.2.1 dX9_search_62 (lv_at hl 6 rfl) ?_
                refine lv_aload_n (pc := 64) C.1 C.2.1 dX9_search_64 rfl (lv_at hl 0 rfl) ?_
                refine GM_X9_39_0 (pc := 65) C h dX9_search_65 ?_
                refine lv_iload (pc := 68) C.1 C.2.1 dX9_search_68 (lv_at hl 7 rfl) ?_
                refine ldM_8 (pc := 70) C h hw.1 dX9_search_70 ?_
                have hw := hw.2
                have hw := hw (fun (v29 : Int64) (v30 : Int32) (v31 : Int64) (v32 : Int32) (v33 : Int32) (v34 : Int32) (v35 : Int32) (z37 : St) => ∀ (H : Heap) (locs : List Loc) (ls : Array Slot), wd D t A s (wM t a z37) H locs → lv_has ls 13 [(0, .ref (a 0)), (1, .int b1), (2, .long v29), (4, .int v30), (5, .long v31), (7, .int v32), (8, .int v33), (9, .int v34), (10, .int v35)] → W p l e (rmd 4) s m args below meth c H locs 0 0 (QL D t A (wM t a) P below args s) (F0 m 163 ls [])) (by
                    intro v29 v30 v31 v32 v33 v34 v35 z37 hw H locs ls h hl
                    refine lv_iload (pc := 163) C.1 C.2.1 dX9_search_163 (lv_at hl 8 rfl) ?_
                    have hw := hw (fun (v38 : Int64) (v39 : Int32) (v40 : Int64) (v41 : Int32) (v42 : Int32) (z44 : St) => ∀ (H : Heap) (locs : List Loc) (ls : Array Slot), wd D t A s (wM t a z44) H locs → lv_has ls 13 [(0, .ref (a 0)), (1, .int b1), (2, .long v38), (4, .int v39), (5, .long v40), (7, .int v41), (8, .int v42)] → W p l e (rmd 4) s m args below meth c H locs 0 0 (QL D t A (wM t a) P below args s) (F0 m 285 ls [])) (by
                        intro v38 v39 v40 v41 v42 z44 hw H locs ls h hl
                        refine lv_iload (pc := 285) C.1 C.2.1 dX9_search_285 (lv_at hl 5 rfl) ?_
                        have hw := hw (fun (v45 : Int64) (v46 : Int32) (v47 : Int64) (v48 : Int32) (v49 : Int32) (z51 : St) => ∀ (H : Heap) (locs : List Loc) (ls : Array Slot), wd D t A s (wM t a z51) H locs → lv_has ls 13 [(0, .ref (a 0)), (1, .int b1), (2, .long v45), (4, .int v46), (5, .long v47), (7, .int v48), (8, .int v49)] → W p l e (rmd 4) s m args below meth c H locs 0 0 (QL D t A (wM t a) P below args s) (F0 m 349 ls [])) (by
                            intro v45 v46 v47 v48 v49 z51 hw H locs ls h hl
                            refine lv_goto (tgt := 45) (pc := 349) C.1 C.2.1 dX9_search_349 (by decide) ?_
                            exact hw _ _ _ h (lv_sub hl [0, 1, 2, 3, 4, 5, 6] rfl))
                        refine lv_if_lt (tgt := 349) (pc := 287) C.1 C.2.1 dX9_search_287 (by decide) (fun c52 => ?_) (fun c52 => ?_)
                        · have hw := hw.1 c52
                          exact hw _ _ _ h (lv_sub hl [0, 1, 2, 3, 4, 5, 6] rfl)
                        · have hw := hw.2 c52
                          refine lv_aload_n (pc := 290) C.1 C.2.1 dX9_search_290 rfl (lv_at hl 0 rfl) ?_
                          refine GM_X9_69_0 (pc := 291) C h dX9_search_291 ?_
                          refine lv_iload (pc := 294) C.1 C.2.1 dX9_search_294 (lv_at hl 5 rfl) ?_
                          refine ldM_18 (pc := 296) C h hw.1 dX9_search_296 ?_
                          have hw := hw.2
                          refine lv_topi (fun x53 ex53 => ?_)
                          have hw := hw x53 ex53
                          refine lv_istore (lv' := [(9, .int x53), (0, .ref (a 0)), (1, .int b1), (2, .long v38), (4, .int v39), (5, .long v40), (7, .int v41), (8, .int v42)]) (pc := 297) C.1 C.2.1 dX9_search_297 hl (by decide) rfl (fun ls hl => ?_)
                          refine lv_lload (pc := 299) C.1 C.2.1 dX9_search_299 (lv_at hl 5 rfl) ?_
                          refine lv_aload_n (pc := 301) C.1 C.2.1 dX9_search_301 rfl (lv_at hl 1 rfl) ?_
                          refine GM_X9_78_0 (pc := 302) C h dX9_search_302 ?_
                          refine lv_bipush (v := 24) (pc := 305) C.1 C.2.1 dX9_search_305 (by decide) ?_
                          refine lv_iload (pc := 307) C.1 C.2.1 dX9_search_307 (lv_at hl 6 rfl) ?_
                          refine lv_imul (pc := 309) C.1 C.2.1 dX9_search_309 ?_
                          refine lv_aload_n (pc := 310) C.1 C.2.1 dX9_search_310 rfl (lv_at hl 1 rfl) ?_
                          refine GM_X9_51_0 (pc := 311) C h dX9_search_311 ?_
                          refine lv_iload (pc := 314) C.1 C.2.1 dX9_search_314 (lv_at hl 0 rfl) ?_
                          refine ldM_12 (pc := 316) C h hw.1 dX9_search_316 ?_
                          have hw := hw.2
                          refine lv_iadd (pc := 317) C.1 C.2.1 dX9_search_317 ?_
                          refine lv_aload_n (pc := 318) C.1 C.2.1 dX9_search_318 rfl (lv_at hl 1 rfl) ?_
                          refine GM_X9_36_0 (pc := 319) C h dX9_search_319 ?_
                          refine lv_iload (pc := 322) C.1 C.2.1 dX9_search_322 (lv_at hl 0 rfl) ?_
                          refine ldM_7 (pc := 324) C h hw.1 dX9_search_324 ?_
                          have hw := hw.2
                          refine lv_isub (pc := 325) C.1 C.2.1 dX9_search_325 ?_
                          refine ldM_21 (pc := 326) C h hw.1 dX9_search_326 ?_
                          have hw := hw.2
                          refine lv_lsub (pc := 327) C.1 C.2.1 dX9_search_327 ?_
                          refine lv_topl (fun x54 ex54 => ?_)
                          have hw := hw x54 ex54
                          refine lv_lstore (lv' := [(5, .long x54), (9, .int x53), (0, .ref (a 0)), (1, .int b1), (2, .long v38), (4, .int v39), (7, .int v41), (8, .int v42)]) (pc := 328) C.1 C.2.1 dX9_search_328 hl (by decide) rfl (fun ls hl => ?_)
                          refine lv_aload_n (pc := 330) C.1 C.2.1 dX9_search_330 rfl (lv_at hl 2 rfl) ?_
                          refine GM_X9_48_0 (pc := 331) C h dX9_search_331 ?_
                          refine lv_iload (pc := 334) C.1 C.2.1 dX9_search_334 (lv_at hl 1 rfl) ?_
                          refine lv_iconst (v := 0) (pc := 336) C.1 C.2.1 dX9_search_336 (by decide) ?_
                          refine stM_11 (pc := 337) C h hw.1 dX9_search_337 (fun z55 ez55 H locs h => ?_)
                          have hw := hw.2 z55 ez55
                          refine lv_aload_n (pc := 338) C.1 C.2.1 dX9_search_338 rfl (lv_at hl 2 rfl) ?_
                          refine GM_X9_51_0 (pc := 339) C h dX9_search_339 ?_
                          refine lv_iload (pc := 342) C.1 C.2.1 dX9_search_342 (lv_at hl 1 rfl) ?_
                          refine ldM_12 (pc := 344) C h hw.1 dX9_search_344 ?_
                          have hw := hw.2
                          refine lv_iconst (v := 1) (pc := 345) C.1 C.2.1 dX9_search_345 (by decide) ?_
                          refine lv_iadd (pc := 346) C.1 C.2.1 dX9_search_346 ?_
                          refine lv_topi (fun x56 ex56 => ?_)
                          have hw := hw x56 ex56
                          refine lv_istore (lv' := [(8, .int x56), (5, .long x54), (9, .int x53), (0, .ref (a 0)), (1, .int b1), (2, .long v38), (4, .int v39), (7, .int v41)]) (pc := 347) C.1 C.2.1 dX9_search_347 hl (by decide) rfl (fun ls hl => ?_)
                          exact hw _ _ _ h (lv_sub hl [3, 4, 5, 6, 1, 7, 0] rfl))
                    refine lv_if_eq (tgt := 282) (pc := 165) C.1 C.2.1 dX9_search_165 (by decide) (fun c57 => ?_) (fun c57 => ?_)
                    · have hw := hw.1 c57
                      obtain ⟨x58, ex58⟩ : ∃ y : Int32, y = v32 + (-1) := ⟨_, rfl⟩
                      have hw := hw x58 ex58
                      refine lv_iinc (v := x58) (lv' := [(7, .int x58), (0, .ref (a 0)), (1, .int b1), (2, .long v29), (4, .int v30), (5, .long v31), (8, .int v33), (9, .int v34), (10, .int v35)]) (pc := 282) C.1 C.2.1 dX9_search_282 hl (k := 5) rfl (by rw [ex58]; rfl) (by decide) rfl (fun ls hl => ?_)
                      exact hw _ _ _ h (lv_sub hl [1, 2, 3, 4, 5, 0, 6] rfl)
                    · have hw := hw.2 c57
                      refine lv_aload_n (pc := 168) C.1 C.2.1 dX9_search_168 rfl (lv_at hl 0 rfl) ?_
                      refine GM_X9_48_0 (pc := 169) C h dX9_search_169 ?_
                      refine lv_iload (pc := 172) C.1 C.2.1 dX9_search_172 (lv_at hl 7 rfl) ?_
                      refine lv_iconst (v := 1) (pc := 174) C.1 C.2.1 dX9_search_174 (by decide) ?_
                      refine stM_11 (pc := 175) C h hw.1 dX9_search_175 (fun z59 ez59 H locs h => ?_)
                      have hw := hw.2 z59 ez59
                      refine lv_aload_n (pc := 176) C.1 C.2.1 dX9_search_176 rfl (lv_at hl 0 rfl) ?_
                      refine GM_X9_51_0 (pc := 177) C h dX9_search_177 ?_
                      refine lv_iload (pc := 180) C.1 C.2.1 dX9_search_180 (lv_at hl 7 rfl) ?_
                      refine lv_iload (pc := 182) C.1 C.2.1 dX9_search_182 (lv_at hl 6 rfl) ?_
                      refine stM_12 (pc := 184) C h hw.1 dX9_search_184 (fun z60 ez60 H locs h => ?_)
                      have hw := hw.2 z60 ez60
                      refine lv_lload (pc := 185) C.1 C.2.1 dX9_search_185 (lv_at hl 4 rfl) ?_
                      refine lv_aload_n (pc := 187) C.1 C.2.1 dX9_search_187 rfl (lv_at hl 0 rfl) ?_
                      refine GM_X9_78_0 (pc := 188) C h dX9_search_188 ?_
                      refine lv_bipush (v := 24) (pc := 191) C.1 C.2.1 dX9_search_191 (by decide) ?_
                      refine lv_iload (pc := 193) C.1 C.2.1 dX9_search_193 (lv_at hl 5 rfl) ?_
                      refine lv_imul (pc := 195) C.1 C.2.1 dX9_search_195 ?_
                      refine lv_iload (pc := 196) C.1 C.2.1 dX9_search_196 (lv_at hl 6 rfl) ?_
                      refine lv_iadd (pc := 198) C.1 C.2.1 dX9_search_198 ?_
                      refine lv_aload_n (pc := 199) C.1 C.2.1 dX9_search_199 rfl (lv_at hl 0 rfl) ?_
                      refine GM_X9_36_0 (pc := 200) C h dX9_search_200 ?_
                      refine lv_iload (pc := 203) C.1 C.2.1 dX9_search_203 (lv_at hl 7 rfl) ?_
                      refine ldM_7 (pc := 205) C h hw.1 dX9_search_205 ?_
                      have hw := hw.2
                      refine lv_isub (pc := 206) C.1 C.2.1 dX9_search_206 ?_
                      refine ldM_21 (pc := 207) C h hw.1 dX9_search_207 ?_
                      have hw := hw.2
                      refine lv_ladd (pc := 208) C.1 C.2.1 dX9_search_208 ?_
                      refine lv_topl (fun x61 ex61 => ?_)
                      have hw := hw x61 ex61
                      refine lv_lstore (lv' := [(5, .long x61), (0, .ref (a 0)), (1, .int b1), (2, .long v29), (4, .int v30), (7, .int v32), (8, .int v33), (9, .int v34), (10, .int v35)]) (pc := 209) C.1 C.2.1 dX9_search_209 hl (by decide) rfl (fun ls hl => ?_)
                      refine lv_iload (pc := 211) C.1 C.2.1 dX9_search_211 (lv_at hl 5 rfl) ?_
                      refine lv_iload_n (pc := 213) C.1 C.2.1 dX9_search_213 rfl (lv_at hl 2 rfl) ?_
                      refine lv_iconst (v := 1) (pc := 214) C.1 C.2.1 dX9_search_214 (by decide) ?_
                      refine lv_isub (pc := 215) C.1 C.2.1 dX9_search_215 ?_
                      refine lv_icmp_ne (tgt := 262) (pc := 216) C.1 C.2.1 dX9_search_216 (by decide) (fun c62 => ?_) (fun c62 => ?_)
                      · have hw := hw.1 c62
                        obtain ⟨x63, ex63⟩ : ∃ y : Int32, y = v32 + (1) := ⟨_, rfl⟩
                        have hw := hw x63 ex63
                        refine lv_iinc (v := x63) (lv' := [(7, .int x63), (5, .long x61), (0, .ref (a 0)), (1, .int b1), (2, .long v29), (4, .int v30), (8, .int v33), (9, .int v34), (10, .int v35)]) (pc := 262) C.1 C.2.1 dX9_search_262 hl (k := 5) rfl (by rw [ex63]; rfl) (by decide) rfl (fun ls hl => ?_)
                        refine lv_aload_n (pc := 265) C.1 C.2.1 dX9_search_265 rfl (lv_at hl 2 rfl) ?_
                        refine GM_X9_36_0 (pc := 266) C h dX9_search_266 ?_
                        refine lv_aload_n (pc := 269) C.1 C.2.1 dX9_search_269 rfl (lv_at hl 2 rfl) ?_
                        refine GM_X9_69_0 (pc := 270) C h dX9_search_270 ?_
                        refine lv_iload (pc := 273) C.1 C.2.1 dX9_search_273 (lv_at hl 0 rfl) ?_
                        refine ldM_18 (pc := 275) C h hw.1 dX9_search_275 ?_
                        have hw := hw.2
                        refine ldM_7 (pc := 276) C h hw.1 dX9_search_276 ?_
                        have hw := hw.2
                        refine lv_topi (fun x64 ex64 => ?_)
                        have hw := hw x64 ex64
                        refine lv_istore (lv' := [(8, .int x64), (7, .int x63), (5, .long x61), (0, .ref (a 0)), (1, .int b1), (2, .long v29), (4, .int v30), (9, .int v34), (10, .int v35)]) (pc := 277) C.1 C.2.1 dX9_search_277 hl (by decide) rfl (fun ls hl => ?_)
                        refine lv_goto (tgt := 45) (pc := 279) C.1 C.2.1 dX9_search_279 (by decide) ?_
                        exact hw _ _ _ h (lv_sub hl [3, 4, 5, 6, 2, 1, 0] rfl)
                      · have hw := hw.2 c62
                        refine lv_iconst (v := 1) (pc := 219) C.1 C.2.1 dX9_search_219 (by decide) ?_
                        refine lv_istore (lv' := [(4, .int ((1 : Int32))), (5, .long x61), (0, .ref (a 0)), (1, .int b1), (2, .long v29), (7, .int v32), (8, .int v33), (9, .int v34), (10, .int v35)]) (pc := 220) C.1 C.2.1 dX9_search_220 hl (by decide) rfl (fun ls hl => ?_)
                        refine lv_lload (pc := 222) C.1 C.2.1 dX9_search_222 (lv_at hl 1 rfl) ?_
                        refine lv_lstore_n (lv' := [(2, .long x61), (4, .int ((1 : Int32))), (5, .long x61), (0, .ref (a 0)), (1, .int b1), (7, .int v32), (8, .int v33), (9, .int v34), (10, .int v35)]) (pc := 224) C.1 C.2.1 dX9_search_224 rfl hl (by decide) rfl (fun ls hl => ?_)
                        refine lv_iconst (v := 0) (pc := 225) C.1 C.2.1 dX9_search_225 (by decide) ?_
                        have hw := hw (fun (v65 : Int64) (v66 : Int32) (v67 : Int64) (v68 : Int32) (v69 : Int32) (v70 : Int32) (z72 : St) => ∀ (H : Heap) (locs : List Loc) (ls : Array Slot), wd D t A s (wM t a z72) H locs → lv_has ls 13 [(0, .ref (a 0)), (1, .int b1), (2, .long v65), (4, .int v66), (5, .long v67), (7, .int v68), (8, .int v69), (11, .int v70)] → W p l e (rmd 4) s m args below meth c H locs 0 0 (QL D t A (wM t a) P below args s) (F0 m 228 ls [])) (by
                            intro v65 v66 v67 v68 v69 v70 z72 hw H locs ls h hl
                            refine lv_iload (pc := 228) C.1 C.2.1 dX9_search_228 (lv_at hl 7 rfl) ?_
                            refine lv_iload_n (pc := 230) C.1 C.2.1 dX9_search_230 rfl (lv_at hl 1 rfl) ?_
                            refine lv_icmp_ge (tgt := 259) (pc := 231) C.1 C.2.1 dX9_search_231 (by decide) (fun c73 => ?_) (fun c73 => ?_)
                            · have hw := hw.1 c73
                              refine lv_goto (tgt := 285) (pc := 259) C.1 C.2.1 dX9_search_259 (by decide) ?_
                              exact hw _ _ _ h (lv_sub hl [0, 1, 2, 3, 4, 5, 6] rfl)
                            · have hw := hw.2 c73
                              refine lv_aload_n (pc := 234) C.1 C.2.1 dX9_search_234 rfl (lv_at hl 0 rfl) ?_
                              refine GM_X9_85_0 (pc := 235) C h dX9_search_235 ?_
                              refine lv_iload (pc := 238) C.1 C.2.1 dX9_search_238 (lv_at hl 7 rfl) ?_
                              refine lv_aload_n (pc := 240) C.1 C.2.1 dX9_search_240 rfl (lv_at hl 0 rfl) ?_
                              refine GM_X9_51_0 (pc := 241) C h dX9_search_241 ?_
                              refine lv_aload_n (pc := 244) C.1 C.2.1 dX9_search_244 rfl (lv_at hl 0 rfl) ?_
                              refine GM_X9_69_0 (pc := 245) C h dX9_search_245 ?_
                              refine lv_iload (pc := 248) C.1 C.2.1 dX9_search_248 (lv_at hl 7 rfl) ?_
                              refine ldM_18 (pc := 250) C h hw.1 dX9_search_250 ?_
                              have hw := hw.2
                              refine ldM_12 (pc := 251) C h hw.1 dX9_search_251 ?_
                              have hw := hw.2
                              refine stM_23 (pc := 252) C h hw.1 dX9_search_252 (fun z74 ez74 H locs h => ?_)
                              have hw := hw.2 z74 ez74
                              obtain ⟨x75, ex75⟩ : ∃ y : Int32, y = v70 + (1) := ⟨_, rfl⟩
                              have hw := hw x75 ex75
                              refine lv_iinc (v := x75) (lv' := [(11, .int x75), (0, .ref (a 0)), (1, .int b1), (2, .long v65), (4, .int v66), (5, .long v67), (7, .int v68), (8, .int v69)]) (pc := 253) C.1 C.2.1 dX9_search_253 hl (k := 7) rfl (by rw [ex75]; rfl) (by decide) rfl (fun ls hl => ?_)
                              refine lv_goto (tgt := 228) (pc := 256) C.1 C.2.1 dX9_search_256 (by decide) ?_
                              exact hw _ _ _ h (lv_sub hl [1, 2, 3, 4, 5, 6, 7, 0] rfl))
                        refine lv_istore (lv' := [(11, .int ((0 : Int32))), (2, .long x61), (4, .int ((1 : Int32))), (5, .long x61), (0, .ref (a 0)), (1, .int b1), (7, .int v32), (8, .int v33), (9, .int v34), (10, .int v35)]) (pc := 226) C.1 C.2.1 dX9_search_226 hl (by decide) rfl (fun ls hl => ?_)
                        exact hw _ _ _ h (lv_sub hl [4, 5, 1, 2, 3, 6, 7, 0] rfl))
                refine lv_icmp_gt (tgt := 163) (pc := 71) C.1 C.2.1 dX9_search_71 (by decide) (fun c76 => ?_) (fun c76 => ?_)
                · have hw := hw.1 c76
                  exact hw _ _ _ h (lv_sub hl [0, 1, 2, 3, 4, 5, 6, 7, 8] rfl)
                · have hw := hw.2 c76
                  refine lv_iload (pc := 74) C.1 C.2.1 dX9_search_74 (lv_at hl 8 rfl) ?_
                  refine lv_if_ne (tgt := 163) (pc := 76) C.1 C.2.1 dX9_search_76 (by decide) (fun c77 => ?_) (fun c77 => ?_)
                  · have hw := hw.1 c77
                    exact hw _ _ _ h (lv_sub hl [0, 1, 2, 3, 4, 5, 6, 7, 8] rfl)
                  · have hw := hw.2 c77
                    refine lv_lload (pc := 79) C.1 C.2.1 dX9_search_79 (lv_at hl 4 rfl) ?_
                    refine lv_aload_n (pc := 81) C.1 C.2.1 dX9_search_81 rfl (lv_at hl 0 rfl) ?_
                    refine GM_X9_78_0 (pc := 82) C h dX9_search_82 ?_
                    refine lv_bipush (v := 24) (pc := 85) C.1 C.2.1 dX9_search_85 (by decide) ?_
                    refine lv_iload (pc := 87) C.1 C.2.1 dX9_search_87 (lv_at hl 5 rfl) ?_
                    refine lv_imul (pc := 89) C.1 C.2.1 dX9_search_89 ?_
                    refine lv_iload (pc := 90) C.1 C.2.1 dX9_search_90 (lv_at hl 6 rfl) ?_
                    refine lv_iadd (pc := 92) C.1 C.2.1 dX9_search_92 ?_
                    refine lv_aload_n (pc := 93) C.1 C.2.1 dX9_search_93 rfl (lv_at hl 0 rfl) ?_
                    refine GM_X9_36_0 (pc := 94) C h dX9_search_94 ?_
                    refine lv_iload (pc := 97) C.1 C.2.1 dX9_search_97 (lv_at hl 7 rfl) ?_
                    refine ldM_7 (pc := 99) C h hw.1 dX9_search_99 ?_
                    have hw := hw.2
                    refine lv_isub (pc := 100) C.1 C.2.1 dX9_search_100 ?_
                    refine ldM_21 (pc := 101) C h hw.1 dX9_search_101 ?_
                    have hw := hw.2
                    refine lv_ladd (pc := 102) C.1 C.2.1 dX9_search_102 ?_
                    refine lv_topl (fun x78 ex78 => ?_)
                    have hw := hw x78 ex78
                    refine lv_lstore (lv' := [(11, .long x78), (0, .ref (a 0)), (1, .int b1), (2, .long v20), (4, .int v21), (5, .long v22), (7, .int v23), (8, .int v24), (9, .int v25), (10, .int v26)]) (pc := 103) C.1 C.2.1 dX9_search_103 hl (by decide) rfl (fun ls hl => ?_)
                    refine lv_iload (pc := 105) C.1 C.2.1 dX9_search_105 (lv_at hl 4 rfl) ?_
                    have hw := hw (fun (v79 : Int64) (v80 : Int32) (v81 : Int64) (v82 : Int32) (v83 : Int32) (v84 : Int32) (s85 : Int32) (z87 : St) => ∀ (H : Heap) (locs : List Loc) (ls : Array Slot), wd D t A s (wM t a z87) H locs → lv_has ls 13 [(0, .ref (a 0)), (1, .int b1), (2, .long v79), (4, .int v80), (5, .long v81), (7, .int v82), (8, .int v83), (9, .int v84)] → W p l e (rmd 4) s m args below meth c H locs 0 0 (QL D t A (wM t a) P below args s) (F0 m 143 ls [.int s85])) (by
                        intro v79 v80 v81 v82 v83 v84 s85 z87 hw H locs ls h hl
                        refine lv_istore (lv' := [(10, .int s85), (0, .ref (a 0)), (1, .int b1), (2, .long v79), (4, .int v80), (5, .long v81), (7, .int v82), (8, .int v83), (9, .int v84)]) (pc := 143) C.1 C.2.1 dX9_search_143 hl (by decide) rfl (fun ls hl => ?_)
                        refine lv_iload (pc := 145) C.1 C.2.1 dX9_search_145 (lv_at hl 7 rfl) ?_
                        refine lv_iload (pc := 147) C.1 C.2.1 dX9_search_147 (lv_at hl 0 rfl) ?_
                        have hw := hw (fun (v88 : Int64) (v89 : Int32) (v90 : Int64) (v91 : Int32) (v92 : Int32) (v93 : Int32) (s94 : Int32) (s95 : Int32) (z97 : St) => ∀ (H : Heap) (locs : List Loc) (ls : Array Slot), wd D t A s (wM t a z97) H locs → lv_has ls 13 [(0, .ref (a 0)), (1, .int b1), (2, .long v88), (4, .int v89), (5, .long v90), (7, .int v91), (9, .int v92), (10, .int v93)] → W p l e (rmd 4) s m args below meth c H locs 0 0 (QL D t A (wM t a) P below args s) (F0 m 157 ls [.int s94, .int s95])) (by
                            intro v88 v89 v90 v91 v92 v93 s94 s95 z97 hw H locs ls h hl
                            refine lv_iadd (pc := 157) C.1 C.2.1 dX9_search_157 ?_
                            refine lv_topi (fun x98 ex98 => ?_)
                            have hw := hw x98 ex98
                            refine lv_istore (lv' := [(8, .int x98), (0, .ref (a 0)), (1, .int b1), (2, .long v88), (4, .int v89), (5, .long v90), (7, .int v91), (9, .int v92), (10, .int v93)]) (pc := 158) C.1 C.2.1 dX9_search_158 hl (by decide) rfl (fun ls hl => ?_)
                            refine lv_goto (tgt := 62) (pc := 160) C.1 C.2.1 dX9_search_160 (by decide) ?_
                            exact hw _ _ _ h (lv_sub hl [1, 2, 3, 4, 5, 6, 0, 7, 8] rfl))
                        refine lv_if_eq (tgt := 156) (pc := 149) C.1 C.2.1 dX9_search_149 (by decide) (fun c99 => ?_) (fun c99 => ?_)
                        · have hw := hw.1 c99
                          refine lv_iconst (v := 1) (pc := 156) C.1 C.2.1 dX9_search_156 (by decide) ?_
                          exact hw _ _ _ h (lv_sub hl [1, 2, 3, 4, 5, 6, 8, 0] rfl)
                        · have hw := hw.2 c99
                          refine lv_iconst (v := 0) (pc := 152) C.1 C.2.1 dX9_search_152 (by decide) ?_
                          refine lv_goto (tgt := 157) (pc := 153) C.1 C.2.1 dX9_search_153 (by decide) ?_
                          exact hw _ _ _ h (lv_sub hl [1, 2, 3, 4, 5, 6, 8, 0] rfl))
                    have hw := hw (fun (v100 : Int64) (v101 : Int32) (v102 : Int64) (v103 : Int32) (v104 : Int32) (v105 : Int32) (z107 : St) => ∀ (H : Heap) (locs : List Loc) (ls : Array Slot), wd D t A s (wM t a z107) H locs → lv_has ls 13 [(0, .ref (a 0)), (1, .int b1), (2, .long v100), (4, .int v101), (5, .long v102), (7, .int v103), (8, .int v104), (9, .int v105)] → W p l e (rmd 4) s m args below meth c H locs 0 0 (QL D t A (wM t a) P below args s) (F0 m 142 ls [])) (by
                        intro v100 v101 v102 v103 v104 v105 z107 hw H locs ls h hl
                        refine lv_iconst (v := 0) (pc := 142) C.1 C.2.1 dX9_search_142 (by decide) ?_
                        exact hw _ _ _ h (lv_sub hl [0, 1, 2, 3, 4, 5, 6, 7] rfl))
                    have hw := hw (fun (v108 : Int64) (v109 : Int32) (v110 : Int64) (v111 : Int32) (v112 : Int32) (v113 : Int32) (z115 : St) => ∀ (H : Heap) (locs : List Loc) (ls : Array Slot), wd D t A s (wM t a z115) H locs → lv_has ls 13 [(0, .ref (a 0)), (1, .int b1), (2, .long v108), (4, .int v109), (5, .long v110), (7, .int v111), (8, .int v112), (9, .int v113)] → W p l e (rmd 4) s m args below meth c H locs 0 0 (QL D t A (wM t a) P below args s) (F0 m 127 ls [])) (by
                        intro v108 v109 v110 v111 v112 v113 z115 hw H locs ls h hl
                        refine lv_aload_n (pc := 127) C.1 C.2.1 dX9_search_127 rfl (lv_at hl 0 rfl) ?_
                        refine lv_iload (pc := 128) C.1 C.2.1 dX9_search_128 (lv_at hl 7 rfl) ?_
                        refine lv_iload (pc := 130) C.1 C.2.1 dX9_search_130 (lv_at hl 6 rfl) ?_
                        refine cl_vi (pc := 132) (As := [.int v113, .int v112]) (rest := []) C h (m_X9_mayBegin l D t a v113 v112 z115 _ hw) mw_X9_mayBegin lm_X9_220 md_X9_mayBegin rcM_0 ⟨by decide, by decide⟩ ⟨Nat.zero_le _, Nat.zero_le _⟩ hl.1 rfl (Nat.le_of_ble_eq_true rfl) dX9_search_132 (fun r117 z116 H locs hw h => ?_)
                        refine lv_if_eq (tgt := 142) (pc := 135) C.1 C.2.1 dX9_search_135 (by decide) (fun c118 => ?_) (fun c118 => ?_)
                        · have hw := hw.1 c118
                          exact hw _ _ _ h (lv_sub hl [0, 1, 2, 3, 4, 5, 6, 7] rfl)
                        · have hw := hw.2 c118
                          refine lv_iconst (v := 1) (pc := 138) C.1 C.2.1 dX9_search_138 (by decide) ?_
                          refine lv_goto (tgt := 143) (pc := 139) C.1 C.2.1 dX9_search_139 (by decide) ?_
                          exact hw _ _ _ h (lv_sub hl [0, 1, 2, 3, 4, 5, 6, 7] rfl))
                    refine lv_if_eq (tgt := 127) (pc := 107) C.1 C.2.1 dX9_search_107 (by decide) (fun c119 => ?_) (fun c119 => ?_)
                    · have hw := hw.1 c119
                      exact hw _ _ _ h (lv_sub hl [1, 2, 3, 4, 5, 6, 7, 8] rfl)
                    · have hw := hw.2 c119
                      refine lv_lload (pc := 110) C.1 C.2.1 dX9_search_110 (lv_at hl 0 rfl) ?_
                      refine lv_aload_n (pc := 112) C.1 C.2.1 dX9_search_112 rfl (lv_at hl 1 rfl) ?_
                      refine GM_X9_82_0 (pc := 113) C h dX9_search_113 ?_
                      refine lv_iload (pc := 116) C.1 C.2.1 dX9_search_116 (lv_at hl 6 rfl) ?_
                      refine lv_iconst (v := 1) (pc := 118) C.1 C.2.1 dX9_search_118 (by decide) ?_
                      refine lv_iadd (pc := 119) C.1 C.2.1 dX9_search_119 ?_
                      refine ldM_22 (pc := 120) C h hw.1 dX9_search_120 ?_
                      have hw := hw.2
                      refine lv_ladd (pc := 121) C.1 C.2.1 dX9_search_121 ?_
                      refine lv_lload_n (pc := 122) C.1 C.2.1 dX9_search_122 rfl (lv_at hl 3 rfl) ?_
                      refine W.lcmp (pc := 123) C.1 C.2.1 dX9_search_123 ?_
                      refine lv_if_ge (tgt := 142) (pc := 124) C.1 C.2.1 dX9_search_124 (by decide) (fun c120 => ?_) (fun c120 => ?_)
                      · have hw := hw.1 c120
                        exact hw _ _ _ h (lv_sub hl [1, 2, 3, 4, 5, 6, 7, 8] rfl)
                      · have hw := hw.2 c120
                        exact hw _ _ _ h (lv_sub hl [1, 2, 3, 4, 5, 6, 7, 8] rfl))
            refine lv_istore (lv' := [(10, .int ((0 : Int32))), (9, .int x19), (0, .ref (a 0)), (1, .int b1), (2, .long v10), (4, .int v11), (5, .long v12), (7, .int v13), (8, .int v14)]) (pc := 60) C.1 C.2.1 dX9_search_60 hl (by decide) rfl (fun ls hl => ?_)
            exact hw _ _ _ h (lv_sub hl [2, 3, 4, 5, 6, 7, 8, 1, 0] rfl))
      refine lv_if_ne (tgt := 45) (pc := 40) C.1 C.2.1 dX9_search_40 (by decide) (fun c121 => ?_) (fun c121 => ?_)
      · have hw := hw.1 c121
        exact hw _ _ _ h (lv_sub hl [1, 2, 3, 4, 5, 6, 0] rfl)
      · have hw := hw.2 c121
        refine lv_lconst (v := 0) (pc := 43) C.1 C.2.1 dX9_search_43 (by decide) ?_
        exact rt_l (pc := 44) C hr hlk h hw dX9_search_44)
  refine lv_if_ne (tgt := 26) (pc := 19) C.1 C.2.1 dX9_search_19 (by decide) (fun c122 => ?_) (fun c122 => ?_)
  · have hw := hw.1 c122
    refine lv_aload_n (pc := 26) C.1 C.2.1 dX9_search_26 rfl (lv_at hl 4 rfl) ?_
    refine GM_X9_36_0 (pc := 27) C h dX9_search_27 ?_
    refine lv_aload_n (pc := 30) C.1 C.2.1 dX9_search_30 rfl (lv_at hl 4 rfl) ?_
    refine GM_X9_69_0 (pc := 31) C h dX9_search_31 ?_
    refine lv_iconst (v := 0) (pc := 34) C.1 C.2.1 dX9_search_34 (by decide) ?_
    refine ldM_18 (pc := 35) C h hw.1 dX9_search_35 ?_
    have hw := hw.2
    refine ldM_7 (pc := 36) C h hw.1 dX9_search_36 ?_
    have hw := hw.2
    exact hw _ _ _ h (lv_sub hl [4, 5, 3, 2, 1, 0] rfl)
  · have hw := hw.2 c122
    refine lv_iconst (v := 0) (pc := 22) C.1 C.2.1 dX9_search_22 (by decide) ?_
    refine lv_goto (tgt := 37) (pc := 23) C.1 C.2.1 dX9_search_23 (by decide) ?_
    exact hw _ _ _ h (lv_sub hl [4, 5, 3, 2, 1, 0] rfl)

def wp_X9_whole  (z : St) (P : Int64 → St → Prop) : Prop :=
  (∀ z1 : St, z1 = wI z 0 ((0 : Int32)) → (∀ K4 : Int32 → Int32 → St → Prop, (∀ (v2 : Int32) (v3 : Int32) (z5 : St), ((((gI z5 12) ≤ v3) → (∀ K9 : Int32 → Int32 → St → Prop, (∀ (v7 : Int32) (v8 : Int32) (z10 : St), ((((gI z10 12) ≤ v8) → (wp_X9_search v7 z10 (fun r13 z12 => (((¬ (lg_cmp r13 ((-4000000000000000000 : Int64))) = 0) → (∀ K18 : Int32 → Int64 → Int32 → St → Prop, (∀ (v15 : Int32) (v16 : Int64) (v17 : Int32) (z19 : St), (((v15 ≤ v17) → (∀ z21 : St, z21 = wI z19 1 ((0 : Int32)) → P v16 z21)) ∧ (¬ (v15 ≤ v17) → (vp_in v17 5 ∧ (vp_in (gF z19 18 v17.toNatClampNeg) 16 ∧ (∀ z22 : St, z22 = wR z19 11 (upd (gF z19 11) (gF z19 18 v17.toNatClampNeg).toNatClampNeg ((1 : Int32))) → (vp_in v17 5 ∧ (vp_in v17 5 ∧ (vp_in (gF z22 18 v17.toNatClampNeg) 16 ∧ (∀ z23 : St, z23 = wR z22 12 (upd (gF z22 12) (gF z22 18 v17.toNatClampNeg).toNatClampNeg (gF z22 23 v17.toNatClampNeg)) → (∀ x24 : Int32, x24 = v17 + (1) → K18 v15 v16 x24 z23)))))))))) → K18 v15 v16 v17 z19) → K18 v7 r13 ((0 : Int32)) z12)) ∧ ((lg_cmp r13 ((-4000000000000000000 : Int64))) = 0 → (∀ K26 : Int32 → St → Prop, (∀ (v25 : Int32) (z27 : St), ((((gI z27 12) ≤ v25) → (∀ z29 : St, z29 = wI z27 1 ((-6 : Int32)) → P ((-4000000000000000006 : Int64)) z29)) ∧ (¬ ((gI z27 12) ≤ v25) → (vp_in v25 16 ∧ (vp_in v25 16 ∧ (∀ z30 : St, z30 = wR z27 11 (upd (gF z27 11) v25.toNatClampNeg (gF z27 19 v25.toNatClampNeg)) → (vp_in v25 16 ∧ (vp_in v25 16 ∧ (∀ z31 : St, z31 = wR z30 12 (upd (gF z30 12) v25.toNatClampNeg (gF z30 20 v25.toNatClampNeg)) → (∀ x32 : Int32, x32 = v25 + (1) → K26 x32 z31))))))))) → K26 v25 z27) → K26 ((0 : Int32)) z12)))))) ∧ (¬ ((gI z10 12) ≤ v8) → (vp_in v8 16 ∧ (vp_in v8 16 ∧ (∀ z33 : St, z33 = wR z10 19 (upd (gF z10 19) v8.toNatClampNeg (gF z10 11 v8.toNatClampNeg)) → (vp_in v8 16 ∧ (vp_in v8 16 ∧ (∀ z34 : St, z34 = wR z33 20 (upd (gF z33 20) v8.toNatClampNeg (gF z33 12 v8.toNatClampNeg)) → (vp_in v8 16 ∧ (∀ K39 : Int32 → Int32 → Int32 → Int32 → St → Prop, (∀ (v35 : Int32) (v36 : Int32) (s37 : Int32) (s38 : Int32) (z40 : St), (vp_in s38 16 ∧ (∀ z41 : St, z41 = wR z40 11 (upd (gF z40 11) s38.toNatClampNeg s37) → (∀ x42 : Int32, x42 = v36 + (1) → K9 v35 x42 z41))) → K39 v35 v36 s37 s38 z40) → (((¬ (gF z34 11 v8.toNatClampNeg) = ((2 : Int32))) → K39 v7 v8 ((0 : Int32)) v8 z34) ∧ ((gF z34 11 v8.toNatClampNeg) = ((2 : Int32)) → K39 v7 v8 ((2 : Int32)) v8 z34)))))))))))) → K9 v7 v8 z10) → K9 v2 ((0 : Int32)) z5)) ∧ (¬ ((gI z5 12) ≤ v3) → (vp_in v3 16 ∧ (∀ K46 : Int32 → Int32 → St → Prop, (∀ (v44 : Int32) (v45 : Int32) (z47 : St), (∀ x48 : Int32, x48 = v45 + (1) → K4 v44 x48 z47) → K46 v44 v45 z47) → ((((gF z5 11 v3.toNatClampNeg) = ((2 : Int32))) → K46 v2 v3 z5) ∧ (¬ ((gF z5 11 v3.toNatClampNeg) = ((2 : Int32))) → (((¬ v2 = ((5 : Int32))) → (vp_in v2 5 ∧ (∀ z51 : St, z51 = wR z5 18 (upd (gF z5 18) v2.toNatClampNeg v3) → (∀ x52 : Int32, x52 = v2 + (1) → K46 x52 v3 z51)))) ∧ (v2 = ((5 : Int32)) → (∀ z53 : St, z53 = wI z5 1 ((-5 : Int32)) → P ((-4000000000000000005 : Int64)) z53))))))))) → K4 v2 v3 z5) → K4 ((0 : Int32)) ((0 : Int32)) z1))
set_option maxHeartbeats 4000000 in
set_option maxRecDepth 100000 in
theorem m_X9_whole (l : Launch) (D : va_G) (t : Ty3) (a : Nat → Nat)  (z : St) (P : Int64 → St → Prop) (hw : wp_X9_whole z P) : CtL l D t yX9_whole cX9_whole 5 (some .long) 5 (wM t a) (wM t a z) [.ref (a 0)] P := by
  refine ctL_of (by decide) (Nat.le_of_ble_eq_true rfl) ?_
  intro p e s m args below meth c A ls C hr hlk h hl
  have hl : lv_has ls 5 [(0, .ref (a 0))] := hl
  unfold wp_X9_whole at hw
  refine lv_aload_n (pc := 0) C.1 C.2.1 dX9_whole_0 rfl (lv_at hl 0 rfl) ?_
  refine lv_iconst (v := 0) (pc := 1) C.1 C.2.1 dX9_whole_1 (by decide) ?_
  refine PM_X9_131_0 (pc := 2) C h dX9_whole_2 (fun z1 ez1 H locs h => ?_)
  have hw := hw z1 ez1
  refine lv_iconst (v := 0) (pc := 5) C.1 C.2.1 dX9_whole_5 (by decide) ?_
  refine lv_istore_n (lv' := [(1, .int ((0 : Int32))), (0, .ref (a 0))]) (pc := 6) C.1 C.2.1 dX9_whole_6 rfl hl (by decide) rfl (fun ls hl => ?_)
  refine lv_iconst (v := 0) (pc := 7) C.1 C.2.1 dX9_whole_7 (by decide) ?_
  have hw := hw (fun (v2 : Int32) (v3 : Int32) (z5 : St) => ∀ (H : Heap) (locs : List Loc) (ls : Array Slot), wd D t A s (wM t a z5) H locs → lv_has ls 5 [(0, .ref (a 0)), (1, .int v2), (2, .int v3)] → W p l e (rmd 5) s m args below meth c H locs 0 0 (QL D t A (wM t a) P below args s) (F0 m 9 ls [])) (by
      intro v2 v3 z5 hw H locs ls h hl
      refine lv_iload_n (pc := 9) C.1 C.2.1 dX9_whole_9 rfl (lv_at hl 2 rfl) ?_
      refine lv_aload_n (pc := 10) C.1 C.2.1 dX9_whole_10 rfl (lv_at hl 0 rfl) ?_
      refine GM_X9_148_0 (pc := 11) C h dX9_whole_11 ?_
      refine lv_icmp_ge (tgt := 58) (pc := 14) C.1 C.2.1 dX9_whole_14 (by decide) (fun c6 => ?_) (fun c6 => ?_)
      · have hw := hw.1 c6
        refine lv_iconst (v := 0) (pc := 58) C.1 C.2.1 dX9_whole_58 (by decide) ?_
        have hw := hw (fun (v7 : Int32) (v8 : Int32) (z10 : St) => ∀ (H : Heap) (locs : List Loc) (ls : Array Slot), wd D t A s (wM t a z10) H locs → lv_has ls 5 [(0, .ref (a 0)), (1, .int v7), (2, .int v8)] → W p l e (rmd 5) s m args below meth c H locs 0 0 (QL D t A (wM t a) P below args s) (F0 m 60 ls [])) (by
            intro v7 v8 z10 hw H locs ls h hl
            refine lv_iload_n (pc := 60) C.1 C.2.1 dX9_whole_60 rfl (lv_at hl 2 rfl) ?_
            refine lv_aload_n (pc := 61) C.1 C.2.1 dX9_whole_61 rfl (lv_at hl 0 rfl) ?_
            refine GM_X9_148_0 (pc := 62) C h dX9_whole_62 ?_
            refine lv_icmp_ge (tgt := 119) (pc := 65) C.1 C.2.1 dX9_whole_65 (by decide) (fun c11 => ?_) (fun c11 => ?_)
            · have hw := hw.1 c11
              refine lv_aload_n (pc := 119) C.1 C.2.1 dX9_whole_119 rfl (lv_at hl 0 rfl) ?_
              refine lv_iload_n (pc := 120) C.1 C.2.1 dX9_whole_120 rfl (lv_at hl 1 rfl) ?_
              refine cl_vl (pc := 121) (As := [.int v7]) (rest := []) C h (m_X9_search l D t a v7 z10 _ hw) mw_X9_search lm_X9_225 md_X9_search rcM_0 ⟨by decide, by decide⟩ ⟨Nat.zero_le _, Nat.zero_le _⟩ hl.1 rfl (Nat.le_of_ble_eq_true rfl) dX9_whole_121 (fun r13 z12 H locs hw h => ?_)
              refine lv_lstore_n (lv' := [(2, .long r13), (0, .ref (a 0)), (1, .int v7)]) (pc := 124) C.1 C.2.1 dX9_whole_124 rfl hl (by decide) rfl (fun ls hl => ?_)
              refine lv_lload_n (pc := 125) C.1 C.2.1 dX9_whole_125 rfl (lv_at hl 0 rfl) ?_
              refine lv_ldc2 (pc := 126) C.1 C.2.1 C.2.2.2.1 (C.2.2.2.2 _ lc_X9_229) dX9_whole_126 ?_
              refine W.lcmp (pc := 129) C.1 C.2.1 dX9_whole_129 ?_
              refine lv_if_ne (tgt := 189) (pc := 130) C.1 C.2.1 dX9_whole_130 (by decide) (fun c14 => ?_) (fun c14 => ?_)
              · have hw := hw.1 c14
                refine lv_iconst (v := 0) (pc := 189) C.1 C.2.1 dX9_whole_189 (by decide) ?_
                have hw := hw (fun (v15 : Int32) (v16 : Int64) (v17 : Int32) (z19 : St) => ∀ (H : Heap) (locs : List Loc) (ls : Array Slot), wd D t A s (wM t a z19) H locs → lv_has ls 5 [(0, .ref (a 0)), (1, .int v15), (2, .long v16), (4, .int v17)] → W p l e (rmd 5) s m args below meth c H locs 0 0 (QL D t A (wM t a) P below args s) (F0 m 192 ls [])) (by
                    intro v15 v16 v17 z19 hw H locs ls h hl
                    refine lv_iload (pc := 192) C.1 C.2.1 dX9_whole_192 (lv_at hl 3 rfl) ?_
                    refine lv_iload_n (pc := 194) C.1 C.2.1 dX9_whole_194 rfl (lv_at hl 1 rfl) ?_
                    refine lv_icmp_ge (tgt := 236) (pc := 195) C.1 C.2.1 dX9_whole_195 (by decide) (fun c20 => ?_) (fun c20 => ?_)
                    · have hw := hw.1 c20
                      refine lv_aload_n (pc := 236) C.1 C.2.1 dX9_whole_236 rfl (lv_at hl 0 rfl) ?_
                      refine lv_iconst (v := 0) (pc := 237) C.1 C.2.1 dX9_whole_237 (by decide) ?_
                      refine PM_X9_134_0 (pc := 238) C h dX9_whole_238 (fun z21 ez21 H locs h => ?_)
                      have hw := hw z21 ez21
                      refine lv_lload_n (pc := 241) C.1 C.2.1 dX9_whole_241 rfl (lv_at hl 2 rfl) ?_
                      exact rt_l (pc := 242) C hr hlk h hw dX9_whole_242
                    · have hw := hw.2 c20
                      refine lv_aload_n (pc := 198) C.1 C.2.1 dX9_whole_198 rfl (lv_at hl 0 rfl) ?_
                      refine GM_X9_48_0 (pc := 199) C h dX9_whole_199 ?_
                      refine lv_aload_n (pc := 202) C.1 C.2.1 dX9_whole_202 rfl (lv_at hl 0 rfl) ?_
                      refine GM_X9_69_0 (pc := 203) C h dX9_whole_203 ?_
                      refine lv_iload (pc := 206) C.1 C.2.1 dX9_whole_206 (lv_at hl 3 rfl) ?_
                      refine ldM_18 (pc := 208) C h hw.1 dX9_whole_208 ?_
                      have hw := hw.2
                      refine lv_iconst (v := 1) (pc := 209) C.1 C.2.1 dX9_whole_209 (by decide) ?_
                      refine stM_11 (pc := 210) C h hw.1 dX9_whole_210 (fun z22 ez22 H locs h => ?_)
                      have hw := hw.2 z22 ez22
                      refine lv_aload_n (pc := 211) C.1 C.2.1 dX9_whole_211 rfl (lv_at hl 0 rfl) ?_
                      refine GM_X9_51_0 (pc := 212) C h dX9_whole_212 ?_
                      refine lv_aload_n (pc := 215) C.1 C.2.1 dX9_whole_215 rfl (lv_at hl 0 rfl) ?_
                      refine GM_X9_69_0 (pc := 216) C h dX9_whole_216 ?_
                      refine lv_iload (pc := 219) C.1 C.2.1 dX9_whole_219 (lv_at hl 3 rfl) ?_
                      refine ldM_18 (pc := 221) C h hw.1 dX9_whole_221 ?_
                      have hw := hw.2
                      refine lv_aload_n (pc := 222) C.1 C.2.1 dX9_whole_222 rfl (lv_at hl 0 rfl) ?_
                      refine GM_X9_85_0 (pc := 223) C h dX9_whole_223 ?_
                      refine lv_iload (pc := 226) C.1 C.2.1 dX9_whole_226 (lv_at hl 3 rfl) ?_
                      refine ldM_23 (pc := 228) C h hw.1 dX9_whole_228 ?_
                      have hw := hw.2
                      refine stM_12 (pc := 229) C h hw.1 dX9_whole_229 (fun z23 ez23 H locs h => ?_)
                      have hw := hw.2 z23 ez23
                      obtain ⟨x24, ex24⟩ : ∃ y : Int32, y = v17 + (1) := ⟨_, rfl⟩
                      have hw := hw x24 ex24
                      refine lv_iinc (v := x24) (lv' := [(4, .int x24), (0, .ref (a 0)), (1, .int v15), (2, .long v16)]) (pc := 230) C.1 C.2.1 dX9_whole_230 hl (k := 3) rfl (by rw [ex24]; rfl) (by decide) rfl (fun ls hl => ?_)
                      refine lv_goto (tgt := 192) (pc := 233) C.1 C.2.1 dX9_whole_233 (by decide) ?_
                      exact hw _ _ _ h (lv_sub hl [1, 2, 3, 0] rfl))
                refine lv_istore (lv' := [(4, .int ((0 : Int32))), (2, .long r13), (0, .ref (a 0)), (1, .int v7)]) (pc := 190) C.1 C.2.1 dX9_whole_190 hl (by decide) rfl (fun ls hl => ?_)
                exact hw _ _ _ h (lv_sub hl [2, 3, 1, 0] rfl)
              · have hw := hw.2 c14
                refine lv_iconst (v := 0) (pc := 133) C.1 C.2.1 dX9_whole_133 (by decide) ?_
                have hw := hw (fun (v25 : Int32) (z27 : St) => ∀ (H : Heap) (locs : List Loc) (ls : Array Slot), wd D t A s (wM t a z27) H locs → lv_has ls 5 [(0, .ref (a 0)), (4, .int v25)] → W p l e (rmd 5) s m args below meth c H locs 0 0 (QL D t A (wM t a) P below args s) (F0 m 136 ls [])) (by
                    intro v25 z27 hw H locs ls h hl
                    refine lv_iload (pc := 136) C.1 C.2.1 dX9_whole_136 (lv_at hl 1 rfl) ?_
                    refine lv_aload_n (pc := 138) C.1 C.2.1 dX9_whole_138 rfl (lv_at hl 0 rfl) ?_
                    refine GM_X9_148_0 (pc := 139) C h dX9_whole_139 ?_
                    refine lv_icmp_ge (tgt := 179) (pc := 142) C.1 C.2.1 dX9_whole_142 (by decide) (fun c28 => ?_) (fun c28 => ?_)
                    · have hw := hw.1 c28
                      refine lv_aload_n (pc := 179) C.1 C.2.1 dX9_whole_179 rfl (lv_at hl 0 rfl) ?_
                      refine lv_bipush (v := -6) (pc := 180) C.1 C.2.1 dX9_whole_180 (by decide) ?_
                      refine PM_X9_134_0 (pc := 182) C h dX9_whole_182 (fun z29 ez29 H locs h => ?_)
                      have hw := hw z29 ez29
                      refine lv_ldc2 (pc := 185) C.1 C.2.1 C.2.2.2.1 (C.2.2.2.2 _ lc_X9_231) dX9_whole_185 ?_
                      exact rt_l (pc := 188) C hr hlk h hw dX9_whole_188
                    · have hw := hw.2 c28
                      refine lv_aload_n (pc := 145) C.1 C.2.1 dX9_whole_145 rfl (lv_at hl 0 rfl) ?_
                      refine GM_X9_48_0 (pc := 146) C h dX9_whole_146 ?_
                      refine lv_iload (pc := 149) C.1 C.2.1 dX9_whole_149 (lv_at hl 1 rfl) ?_
                      refine lv_aload_n (pc := 151) C.1 C.2.1 dX9_whole_151 rfl (lv_at hl 0 rfl) ?_
                      refine GM_X9_72_0 (pc := 152) C h dX9_whole_152 ?_
                      refine lv_iload (pc := 155) C.1 C.2.1 dX9_whole_155 (lv_at hl 1 rfl) ?_
                      refine ldM_19 (pc := 157) C h hw.1 dX9_whole_157 ?_
                      have hw := hw.2
                      refine stM_11 (pc := 158) C h hw.1 dX9_whole_158 (fun z30 ez30 H locs h => ?_)
                      have hw := hw.2 z30 ez30
                      refine lv_aload_n (pc := 159) C.1 C.2.1 dX9_whole_159 rfl (lv_at hl 0 rfl) ?_
                      refine GM_X9_51_0 (pc := 160) C h dX9_whole_160 ?_
                      refine lv_iload (pc := 163) C.1 C.2.1 dX9_whole_163 (lv_at hl 1 rfl) ?_
                      refine lv_aload_n (pc := 165) C.1 C.2.1 dX9_whole_165 rfl (lv_at hl 0 rfl) ?_
                      refine GM_X9_75_0 (pc := 166) C h dX9_whole_166 ?_
                      refine lv_iload (pc := 169) C.1 C.2.1 dX9_whole_169 (lv_at hl 1 rfl) ?_
                      refine ldM_20 (pc := 171) C h hw.1 dX9_whole_171 ?_
                      have hw := hw.2
                      refine stM_12 (pc := 172) C h hw.1 dX9_whole_172 (fun z31 ez31 H locs h => ?_)
                      have hw := hw.2 z31 ez31
                      obtain ⟨x32, ex32⟩ : ∃ y : Int32, y = v25 + (1) := ⟨_, rfl⟩
                      have hw := hw x32 ex32
                      refine lv_iinc (v := x32) (lv' := [(4, .int x32), (0, .ref (a 0))]) (pc := 173) C.1 C.2.1 dX9_whole_173 hl (k := 1) rfl (by rw [ex32]; rfl) (by decide) rfl (fun ls hl => ?_)
                      refine lv_goto (tgt := 136) (pc := 176) C.1 C.2.1 dX9_whole_176 (by decide) ?_
                      exact hw _ _ _ h (lv_sub hl [1, 0] rfl))
                refine lv_istore (lv' := [(4, .int ((0 : Int32))), (2, .long r13), (0, .ref (a 0)), (1, .int v7)]) (pc := 134) C.1 C.2.1 dX9_whole_134 hl (by decide) rfl (fun ls hl => ?_)
                exact hw _ _ _ h (lv_sub hl [2, 0] rfl)
            · have hw := hw.2 c11
              refine lv_aload_n (pc := 68) C.1 C.2.1 dX9_whole_68 rfl (lv_at hl 0 rfl) ?_
              refine GM_X9_72_0 (pc := 69) C h dX9_whole_69 ?_
              refine lv_iload_n (pc := 72) C.1 C.2.1 dX9_whole_72 rfl (lv_at hl 2 rfl) ?_
              refine lv_aload_n (pc := 73) C.1 C.2.1 dX9_whole_73 rfl (lv_at hl 0 rfl) ?_
              refine GM_X9_48_0 (pc := 74) C h dX9_whole_74 ?_
              refine lv_iload_n (pc := 77) C.1 C.2.1 dX9_whole_77 rfl (lv_at hl 2 rfl) ?_
              refine ldM_11 (pc := 78) C h hw.1 dX9_whole_78 ?_
              have hw := hw.2
              refine stM_19 (pc := 79) C h hw.1 dX9_whole_79 (fun z33 ez33 H locs h => ?_)
              have hw := hw.2 z33 ez33
              refine lv_aload_n (pc := 80) C.1 C.2.1 dX9_whole_80 rfl (lv_at hl 0 rfl) ?_
              refine GM_X9_75_0 (pc := 81) C h dX9_whole_81 ?_
              refine lv_iload_n (pc := 84) C.1 C.2.1 dX9_whole_84 rfl (lv_at hl 2 rfl) ?_
              refine lv_aload_n (pc := 85) C.1 C.2.1 dX9_whole_85 rfl (lv_at hl 0 rfl) ?_
              refine GM_X9_51_0 (pc := 86) C h dX9_whole_86 ?_
              refine lv_iload_n (pc := 89) C.1 C.2.1 dX9_whole_89 rfl (lv_at hl 2 rfl) ?_
              refine ldM_12 (pc := 90) C h hw.1 dX9_whole_90 ?_
              have hw := hw.2
              refine stM_20 (pc := 91) C h hw.1 dX9_whole_91 (fun z34 ez34 H locs h => ?_)
              have hw := hw.2 z34 ez34
              refine lv_aload_n (pc := 92) C.1 C.2.1 dX9_whole_92 rfl (lv_at hl 0 rfl) ?_
              refine GM_X9_48_0 (pc := 93) C h dX9_whole_93 ?_
              refine lv_iload_n (pc := 96) C.1 C.2.1 dX9_whole_96 rfl (lv_at hl 2 rfl) ?_
              refine lv_aload_n (pc := 97) C.1 C.2.1 dX9_whole_97 rfl (lv_at hl 0 rfl) ?_
              refine GM_X9_48_0 (pc := 98) C h dX9_whole_98 ?_
              refine lv_iload_n (pc := 101) C.1 C.2.1 dX9_whole_101 rfl (lv_at hl 2 rfl) ?_
              refine ldM_11 (pc := 102) C h hw.1 dX9_whole_102 ?_
              have hw := hw.2
              refine lv_iconst (v := 2) (pc := 103) C.1 C.2.1 dX9_whole_103 (by decide) ?_
              have hw := hw (fun (v35 : Int32) (v36 : Int32) (s37 : Int32) (s38 : Int32) (z40 : St) => ∀ (H : Heap) (locs : List Loc) (ls : Array Slot), wd D t A s (wM t a z40) H locs → lv_has ls 5 [(0, .ref (a 0)), (1, .int v35), (2, .int v36)] → W p l e (rmd 5) s m args below meth c H locs 0 0 (QL D t A (wM t a) P below args s) (F0 m 112 ls [.int s37, .int s38, .ref (a 11)])) (by
                  intro v35 v36 s37 s38 z40 hw H locs ls h hl
                  refine stM_11 (pc := 112) C h hw.1 dX9_whole_112 (fun z41 ez41 H locs h => ?_)
                  have hw := hw.2 z41 ez41
                  obtain ⟨x42, ex42⟩ : ∃ y : Int32, y = v36 + (1) := ⟨_, rfl⟩
                  have hw := hw x42 ex42
                  refine lv_iinc (v := x42) (lv' := [(2, .int x42), (0, .ref (a 0)), (1, .int v35)]) (pc := 113) C.1 C.2.1 dX9_whole_113 hl (k := 2) rfl (by rw [ex42]; rfl) (by decide) rfl (fun ls hl => ?_)
                  refine lv_goto (tgt := 60) (pc := 116) C.1 C.2.1 dX9_whole_116 (by decide) ?_
                  exact hw _ _ _ h (lv_sub hl [1, 2, 0] rfl))
              refine lv_icmp_ne (tgt := 111) (pc := 104) C.1 C.2.1 dX9_whole_104 (by decide) (fun c43 => ?_) (fun c43 => ?_)
              · have hw := hw.1 c43
                refine lv_iconst (v := 0) (pc := 111) C.1 C.2.1 dX9_whole_111 (by decide) ?_
                exact hw _ _ _ h (lv_sub hl [0, 1, 2] rfl)
              · have hw := hw.2 c43
                refine lv_iconst (v := 2) (pc := 107) C.1 C.2.1 dX9_whole_107 (by decide) ?_
                refine lv_goto (tgt := 112) (pc := 108) C.1 C.2.1 dX9_whole_108 (by decide) ?_
                exact hw _ _ _ h (lv_sub hl [0, 1, 2] rfl))
        refine lv_istore_n (lv' := [(2, .int ((0 : Int32))), (0, .ref (a 0)), (1, .int v2)]) (pc := 59) C.1 C.2.1 dX9_whole_59 rfl hl (by decide) rfl (fun ls hl => ?_)
        exact hw _ _ _ h (lv_sub hl [1, 2, 0] rfl)
      · have hw := hw.2 c6
        refine lv_aload_n (pc := 17) C.1 C.2.1 dX9_whole_17 rfl (lv_at hl 0 rfl) ?_
        refine GM_X9_48_0 (pc := 18) C h dX9_whole_18 ?_
        refine lv_iload_n (pc := 21) C.1 C.2.1 dX9_whole_21 rfl (lv_at hl 2 rfl) ?_
        refine ldM_11 (pc := 22) C h hw.1 dX9_whole_22 ?_
        have hw := hw.2
        refine lv_iconst (v := 2) (pc := 23) C.1 C.2.1 dX9_whole_23 (by decide) ?_
        have hw := hw (fun (v44 : Int32) (v45 : Int32) (z47 : St) => ∀ (H : Heap) (locs : List Loc) (ls : Array Slot), wd D t A s (wM t a z47) H locs → lv_has ls 5 [(0, .ref (a 0)), (1, .int v44), (2, .int v45)] → W p l e (rmd 5) s m args below meth c H locs 0 0 (QL D t A (wM t a) P below args s) (F0 m 52 ls [])) (by
            intro v44 v45 z47 hw H locs ls h hl
            obtain ⟨x48, ex48⟩ : ∃ y : Int32, y = v45 + (1) := ⟨_, rfl⟩
            have hw := hw x48 ex48
            refine lv_iinc (v := x48) (lv' := [(2, .int x48), (0, .ref (a 0)), (1, .int v44)]) (pc := 52) C.1 C.2.1 dX9_whole_52 hl (k := 2) rfl (by rw [ex48]; rfl) (by decide) rfl (fun ls hl => ?_)
            refine lv_goto (tgt := 9) (pc := 55) C.1 C.2.1 dX9_whole_55 (by decide) ?_
            exact hw _ _ _ h (lv_sub hl [1, 2, 0] rfl))
        refine lv_icmp_eq (tgt := 52) (pc := 24) C.1 C.2.1 dX9_whole_24 (by decide) (fun c49 => ?_) (fun c49 => ?_)
        · have hw := hw.1 c49
          exact hw _ _ _ h (lv_sub hl [0, 1, 2] rfl)
        · have hw := hw.2 c49
          refine lv_iload_n (pc := 27) C.1 C.2.1 dX9_whole_27 rfl (lv_at hl 1 rfl) ?_
          refine lv_iconst (v := 5) (pc := 28) C.1 C.2.1 dX9_whole_28 (by decide) ?_
          refine lv_icmp_ne (tgt := 42) (pc := 29) C.1 C.2.1 dX9_whole_29 (by decide) (fun c50 => ?_) (fun c50 => ?_)
          · have hw := hw.1 c50
            refine lv_aload_n (pc := 42) C.1 C.2.1 dX9_whole_42 rfl (lv_at hl 0 rfl) ?_
            refine GM_X9_69_0 (pc := 43) C h dX9_whole_43 ?_
            refine lv_iload_n (pc := 46) C.1 C.2.1 dX9_whole_46 rfl (lv_at hl 1 rfl) ?_
            refine lv_iload_n (pc := 47) C.1 C.2.1 dX9_whole_47 rfl (lv_at hl 2 rfl) ?_
            refine stM_18 (pc := 48) C h hw.1 dX9_whole_48 (fun z51 ez51 H locs h => ?_)
            have hw := hw.2 z51 ez51
            obtain ⟨x52, ex52⟩ : ∃ y : Int32, y = v2 + (1) := ⟨_, rfl⟩
            have hw := hw x52 ex52
            refine lv_iinc (v := x52) (lv' := [(1, .int x52), (0, .ref (a 0)), (2, .int v3)]) (pc := 49) C.1 C.2.1 dX9_whole_49 hl (k := 1) rfl (by rw [ex52]; rfl) (by decide) rfl (fun ls hl => ?_)
            exact hw _ _ _ h (lv_sub hl [1, 0, 2] rfl)
          · have hw := hw.2 c50
            refine lv_aload_n (pc := 32) C.1 C.2.1 dX9_whole_32 rfl (lv_at hl 0 rfl) ?_
            refine lv_bipush (v := -5) (pc := 33) C.1 C.2.1 dX9_whole_33 (by decide) ?_
            refine PM_X9_134_0 (pc := 35) C h dX9_whole_35 (fun z53 ez53 H locs h => ?_)
            have hw := hw z53 ez53
            refine lv_ldc2 (pc := 38) C.1 C.2.1 C.2.2.2.1 (C.2.2.2.2 _ lc_X9_223) dX9_whole_38 ?_
            exact rt_l (pc := 41) C hr hlk h hw dX9_whole_41)
  refine lv_istore_n (lv' := [(2, .int ((0 : Int32))), (1, .int ((0 : Int32))), (0, .ref (a 0))]) (pc := 8) C.1 C.2.1 dX9_whole_8 rfl hl (by decide) rfl (fun ls hl => ?_)
  exact hw _ _ _ h (lv_sub hl [2, 1, 0] rfl)
