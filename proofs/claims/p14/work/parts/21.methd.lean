def wp_X8_cost (b1 : Int32) (b2 : Int32) (z : St) (P : Int64 → St → Prop) : Prop :=
  (wp_X1_has b1 z (fun r2 z1 => (((r2 = 0) → P ((0 : Int64)) z1) ∧ (¬ (r2 = 0) → (vp_in b1 16 ∧ ((((gF z1 19 b1.toNatClampNeg) = 0) → P ((0 : Int64)) z1) ∧ (¬ ((gF z1 19 b1.toNatClampNeg) = 0) → (wp_X8_isKnown b2 z1 (fun r6 z5 => (((¬ r6 = 0) → (wp_X3_lay_6 b2 z5 (fun z8 => (vp_in b1 16 ∧ (wp_X1_costFrom_6 b1 (gF z8 20 b1.toNatClampNeg) z8 (fun r11 z10 => P r11 z10)))))) ∧ (r6 = 0 → P ((0 : Int64)) z5)))))))))))
set_option maxHeartbeats 4000000 in
set_option maxRecDepth 100000 in
theorem m_X8_cost (l : Launch) (D : va_G) (t : Ty3) (a : Nat → Nat) (b1 : Int32) (b2 : Int32) (z : St) (P : Int64 → St → Prop) (hw : wp_X8_cost b1 b2 z P) : CtL l D t yX8_cost cX8_cost 3 (some .long) 2 (wX t a) (wX t a z) [.ref (a 0), .int b1, .int b2] P := by
  refine ctL_of (by decide) (Nat.le_of_ble_eq_true rfl) ?_
  intro p e s m args below meth c A ls C hr hlk h hl
  have hl : lv_has ls 3 [(0, .ref (a 0)), (1, .int b1), (2, .int b2)] := hl
  unfold wp_X8_cost at hw
  refine lv_aload_n (pc := 0) C.1 C.2.1 dX8_cost_0 rfl (lv_at hl 0 rfl) ?_
  refine GX_X8_28_0 (pc := 1) C h dX8_cost_1 ?_
  refine lv_iload_n (pc := 4) C.1 C.2.1 dX8_cost_4 rfl (lv_at hl 1 rfl) ?_
  refine cl_vi (pc := 5) (As := [.int b1]) (rest := []) C h (m_X1_has l D t a b1 z _ hw) mw_X1_has lm_X8_143 md_X1_has rcX_13 ⟨by decide, by decide⟩ ⟨Nat.zero_le _, Nat.zero_le _⟩ hl.1 rfl (Nat.le_of_ble_eq_true rfl) dX8_cost_5 (fun r2 z1 H locs hw h => ?_)
  refine lv_if_eq (tgt := 30) (pc := 8) C.1 C.2.1 dX8_cost_8 (by decide) (fun c3 => ?_) (fun c3 => ?_)
  · have hw := hw.1 c3
    refine lv_lconst (v := 0) (pc := 30) C.1 C.2.1 dX8_cost_30 (by decide) ?_
    exact rt_l (pc := 31) C hr hlk h hw dX8_cost_31
  · have hw := hw.2 c3
    refine lv_aload_n (pc := 11) C.1 C.2.1 dX8_cost_11 rfl (lv_at hl 0 rfl) ?_
    refine GX_X8_28_0 (pc := 12) C h dX8_cost_12 ?_
    refine GX_X8_156_13 (pc := 15) C h dX8_cost_15 ?_
    refine lv_iload_n (pc := 18) C.1 C.2.1 dX8_cost_18 rfl (lv_at hl 1 rfl) ?_
    refine ldX_19 (pc := 19) C h hw.1 dX8_cost_19 ?_
    have hw := hw.2
    refine lv_if_eq (tgt := 30) (pc := 20) C.1 C.2.1 dX8_cost_20 (by decide) (fun c4 => ?_) (fun c4 => ?_)
    · have hw := hw.1 c4
      refine lv_lconst (v := 0) (pc := 30) C.1 C.2.1 dX8_cost_30 (by decide) ?_
      exact rt_l (pc := 31) C hr hlk h hw dX8_cost_31
    · have hw := hw.2 c4
      refine lv_iload_n (pc := 23) C.1 C.2.1 dX8_cost_23 rfl (lv_at hl 2 rfl) ?_
      refine cl_si (pc := 24) (As := [.int b2]) (rest := []) C h (m_X8_isKnown l D t a b2 z1 _ hw) mw_X8_isKnown lm_X8_78 md_X8_isKnown ⟨by decide, by decide⟩ ⟨Nat.zero_le _, Nat.zero_le _⟩ hl.1 rfl (Nat.le_of_ble_eq_true rfl) dX8_cost_24 (fun r6 z5 H locs hw h => ?_)
      refine lv_if_ne (tgt := 32) (pc := 27) C.1 C.2.1 dX8_cost_27 (by decide) (fun c7 => ?_) (fun c7 => ?_)
      · have hw := hw.1 c7
        refine lv_aload_n (pc := 32) C.1 C.2.1 dX8_cost_32 rfl (lv_at hl 0 rfl) ?_
        refine GX_X8_10_0 (pc := 33) C h dX8_cost_33 ?_
        refine lv_aload_n (pc := 36) C.1 C.2.1 dX8_cost_36 rfl (lv_at hl 0 rfl) ?_
        refine GX_X8_10_0 (pc := 37) C h dX8_cost_37 ?_
        refine GX_X8_222_1 (pc := 40) C h dX8_cost_40 ?_
        refine lv_iload_n (pc := 43) C.1 C.2.1 dX8_cost_43 rfl (lv_at hl 2 rfl) ?_
        refine cl_vv (pc := 44) (As := [.ref (a 6), .int b2]) (rest := []) C h (m_X3_lay_6 l D t a b2 z5 _ hw) mw_X3_lay lm_X8_105 md_X3_lay rcX_1 ⟨by decide, by decide⟩ ⟨Nat.zero_le _, Nat.zero_le _⟩ hl.1 rfl (Nat.le_of_ble_eq_true rfl) dX8_cost_44 (fun z8 H locs hw h => ?_)
        refine lv_aload_n (pc := 47) C.1 C.2.1 dX8_cost_47 rfl (lv_at hl 0 rfl) ?_
        refine GX_X8_28_0 (pc := 48) C h dX8_cost_48 ?_
        refine lv_iload_n (pc := 51) C.1 C.2.1 dX8_cost_51 rfl (lv_at hl 1 rfl) ?_
        refine lv_aload_n (pc := 52) C.1 C.2.1 dX8_cost_52 rfl (lv_at hl 0 rfl) ?_
        refine GX_X8_28_0 (pc := 53) C h dX8_cost_53 ?_
        refine GX_X8_159_13 (pc := 56) C h dX8_cost_56 ?_
        refine lv_iload_n (pc := 59) C.1 C.2.1 dX8_cost_59 rfl (lv_at hl 1 rfl) ?_
        refine ldX_20 (pc := 60) C h hw.1 dX8_cost_60 ?_
        have hw := hw.2
        refine lv_aload_n (pc := 61) C.1 C.2.1 dX8_cost_61 rfl (lv_at hl 0 rfl) ?_
        refine GX_X8_10_0 (pc := 62) C h dX8_cost_62 ?_
        refine GX_X8_222_1 (pc := 65) C h dX8_cost_65 ?_
        refine cl_vl (pc := 68) (As := [.int b1, .int (gF z8 20 b1.toNatClampNeg), .ref (a 6)]) (rest := []) C h (m_X1_costFrom_6 l D t a b1 (gF z8 20 b1.toNatClampNeg) z8 _ hw) mw_X1_costFrom lm_X8_225 md_X1_costFrom rcX_13 ⟨by decide, by decide⟩ ⟨Nat.zero_le _, Nat.zero_le _⟩ hl.1 rfl (Nat.le_of_ble_eq_true rfl) dX8_cost_68 (fun r11 z10 H locs hw h => ?_)
        exact rt_l (pc := 71) C hr hlk h hw dX8_cost_71
      · have hw := hw.2 c7
        refine lv_lconst (v := 0) (pc := 30) C.1 C.2.1 dX8_cost_30 (by decide) ?_
        exact rt_l (pc := 31) C hr hlk h hw dX8_cost_31

def wp_X8_saved (b1 : Int32) (z : St) (P : Int64 → St → Prop) : Prop :=
  (wp_X8_isKnown b1 z (fun r2 z1 => (((¬ r2 = 0) → (wp_X3_lay_6 b1 z1 (fun z4 => (∀ K8 : Int64 → Int32 → St → Prop, (∀ (v6 : Int64) (v7 : Int32) (z9 : St), ((((gI z9 1308) ≤ v7) → P v6 z9) ∧ (¬ ((gI z9 1308) ≤ v7) → (vp_in v7 16 ∧ (∀ K13 : Int64 → Int32 → St → Prop, (∀ (v11 : Int64) (v12 : Int32) (z14 : St), (∀ x15 : Int32, x15 = v12 + (1) → K8 v11 x15 z14) → K13 v11 v12 z14) → (((¬ (gF z9 19 v7.toNatClampNeg) = ((2 : Int32))) → K13 v6 v7 z9) ∧ ((gF z9 19 v7.toNatClampNeg) = ((2 : Int32)) → (vp_in v7 16 ∧ (wp_X1_costFrom_6 v7 (gF z9 15 v7.toNatClampNeg) z9 (fun r18 z17 => (∀ x19 : Int64, x19 = v6 + r18 → (vp_in v7 16 ∧ (wp_X1_costFrom_6 v7 (gF z17 20 v7.toNatClampNeg) z17 (fun r21 z20 => (∀ x22 : Int64, x22 = x19 - r21 → K13 x22 v7 z20)))))))))))))) → K8 v6 v7 z9) → K8 ((0 : Int64)) ((0 : Int32)) z4)))) ∧ (r2 = 0 → P ((0 : Int64)) z1))))
set_option maxHeartbeats 4000000 in
set_option maxRecDepth 100000 in
theorem m_X8_saved (l : Launch) (D : va_G) (t : Ty3) (a : Nat → Nat) (b1 : Int32) (z : St) (P : Int64 → St → Prop) (hw : wp_X8_saved b1 z P) : CtL l D t yX8_saved cX8_saved 5 (some .long) 2 (wX t a) (wX t a z) [.ref (a 0), .int b1] P := by
  refine ctL_of (by decide) (Nat.le_of_ble_eq_true rfl) ?_
  intro p e s m args below meth c A ls C hr hlk h hl
  have hl : lv_has ls 5 [(0, .ref (a 0)), (1, .int b1)] := hl
  unfold wp_X8_saved at hw
  refine lv_iload_n (pc := 0) C.1 C.2.1 dX8_saved_0 rfl (lv_at hl 1 rfl) ?_
  refine cl_si (pc := 1) (As := [.int b1]) (rest := []) C h (m_X8_isKnown l D t a b1 z _ hw) mw_X8_isKnown lm_X8_78 md_X8_isKnown ⟨by decide, by decide⟩ ⟨Nat.zero_le _, Nat.zero_le _⟩ hl.1 rfl (Nat.le_of_ble_eq_true rfl) dX8_saved_1 (fun r2 z1 H locs hw h => ?_)
  refine lv_if_ne (tgt := 9) (pc := 4) C.1 C.2.1 dX8_saved_4 (by decide) (fun c3 => ?_) (fun c3 => ?_)
  · have hw := hw.1 c3
    refine lv_aload_n (pc := 9) C.1 C.2.1 dX8_saved_9 rfl (lv_at hl 0 rfl) ?_
    refine GX_X8_10_0 (pc := 10) C h dX8_saved_10 ?_
    refine lv_aload_n (pc := 13) C.1 C.2.1 dX8_saved_13 rfl (lv_at hl 0 rfl) ?_
    refine GX_X8_10_0 (pc := 14) C h dX8_saved_14 ?_
    refine GX_X8_222_1 (pc := 17) C h dX8_saved_17 ?_
    refine lv_iload_n (pc := 20) C.1 C.2.1 dX8_saved_20 rfl (lv_at hl 1 rfl) ?_
    refine cl_vv (pc := 21) (As := [.ref (a 6), .int b1]) (rest := []) C h (m_X3_lay_6 l D t a b1 z1 _ hw) mw_X3_lay lm_X8_105 md_X3_lay rcX_1 ⟨by decide, by decide⟩ ⟨Nat.zero_le _, Nat.zero_le _⟩ hl.1 rfl (Nat.le_of_ble_eq_true rfl) dX8_saved_21 (fun z4 H locs hw h => ?_)
    refine lv_lconst (v := 0) (pc := 24) C.1 C.2.1 dX8_saved_24 (by decide) ?_
    refine lv_lstore_n (lv' := [(2, .long ((0 : Int64))), (0, .ref (a 0)), (1, .int b1)]) (pc := 25) C.1 C.2.1 dX8_saved_25 rfl hl (by decide) rfl (fun ls hl => ?_)
    refine lv_iconst (v := 0) (pc := 26) C.1 C.2.1 dX8_saved_26 (by decide) ?_
    have hw := hw (fun (v6 : Int64) (v7 : Int32) (z9 : St) => ∀ (H : Heap) (locs : List Loc) (ls : Array Slot), wd D t A s (wX t a z9) H locs → lv_has ls 5 [(0, .ref (a 0)), (2, .long v6), (4, .int v7)] → W p l e (rmd 2) s m args below meth c H locs 0 0 (QL D t A (wX t a) P below args s) (F0 m 29 ls [])) (by
        intro v6 v7 z9 hw H locs ls h hl
        refine lv_iload (pc := 29) C.1 C.2.1 dX8_saved_29 (lv_at hl 2 rfl) ?_
        refine lv_aload_n (pc := 31) C.1 C.2.1 dX8_saved_31 rfl (lv_at hl 0 rfl) ?_
        refine GX_X8_28_0 (pc := 32) C h dX8_saved_32 ?_
        refine GX_X8_134_13 (pc := 35) C h dX8_saved_35 ?_
        refine lv_icmp_ge (tgt := 119) (pc := 38) C.1 C.2.1 dX8_saved_38 (by decide) (fun c10 => ?_) (fun c10 => ?_)
        · have hw := hw.1 c10
          refine lv_lload_n (pc := 119) C.1 C.2.1 dX8_saved_119 rfl (lv_at hl 1 rfl) ?_
          exact rt_l (pc := 120) C hr hlk h hw dX8_saved_120
        · have hw := hw.2 c10
          refine lv_aload_n (pc := 41) C.1 C.2.1 dX8_saved_41 rfl (lv_at hl 0 rfl) ?_
          refine GX_X8_28_0 (pc := 42) C h dX8_saved_42 ?_
          refine GX_X8_156_13 (pc := 45) C h dX8_saved_45 ?_
          refine lv_iload (pc := 48) C.1 C.2.1 dX8_saved_48 (lv_at hl 2 rfl) ?_
          refine ldX_19 (pc := 50) C h hw.1 dX8_saved_50 ?_
          have hw := hw.2
          refine lv_iconst (v := 2) (pc := 51) C.1 C.2.1 dX8_saved_51 (by decide) ?_
          have hw := hw (fun (v11 : Int64) (v12 : Int32) (z14 : St) => ∀ (H : Heap) (locs : List Loc) (ls : Array Slot), wd D t A s (wX t a z14) H locs → lv_has ls 5 [(0, .ref (a 0)), (2, .long v11), (4, .int v12)] → W p l e (rmd 2) s m args below meth c H locs 0 0 (QL D t A (wX t a) P below args s) (F0 m 113 ls [])) (by
              intro v11 v12 z14 hw H locs ls h hl
              obtain ⟨x15, ex15⟩ : ∃ y : Int32, y = v12 + (1) := ⟨_, rfl⟩
              have hw := hw x15 ex15
              refine lv_iinc (v := x15) (lv' := [(4, .int x15), (0, .ref (a 0)), (2, .long v11)]) (pc := 113) C.1 C.2.1 dX8_saved_113 hl (k := 2) rfl (by rw [ex15]; rfl) (by decide) rfl (fun ls hl => ?_)
              refine lv_goto (tgt := 29) (pc := 116) C.1 C.2.1 dX8_saved_116 (by decide) ?_
              exact hw _ _ _ h (lv_sub hl [1, 2, 0] rfl))
          refine lv_icmp_ne (tgt := 113) (pc := 52) C.1 C.2.1 dX8_saved_52 (by decide) (fun c16 => ?_) (fun c16 => ?_)
          · have hw := hw.1 c16
            exact hw _ _ _ h (lv_sub hl [0, 1, 2] rfl)
          · have hw := hw.2 c16
            refine lv_lload_n (pc := 55) C.1 C.2.1 dX8_saved_55 rfl (lv_at hl 1 rfl) ?_
            refine lv_aload_n (pc := 56) C.1 C.2.1 dX8_saved_56 rfl (lv_at hl 0 rfl) ?_
            refine GX_X8_28_0 (pc := 57) C h dX8_saved_57 ?_
            refine lv_iload (pc := 60) C.1 C.2.1 dX8_saved_60 (lv_at hl 2 rfl) ?_
            refine lv_aload_n (pc := 62) C.1 C.2.1 dX8_saved_62 rfl (lv_at hl 0 rfl) ?_
            refine GX_X8_28_0 (pc := 63) C h dX8_saved_63 ?_
            refine GX_X8_147_13 (pc := 66) C h dX8_saved_66 ?_
            refine lv_iload (pc := 69) C.1 C.2.1 dX8_saved_69 (lv_at hl 2 rfl) ?_
            refine ldX_15 (pc := 71) C h hw.1 dX8_saved_71 ?_
            have hw := hw.2
            refine lv_aload_n (pc := 72) C.1 C.2.1 dX8_saved_72 rfl (lv_at hl 0 rfl) ?_
            refine GX_X8_10_0 (pc := 73) C h dX8_saved_73 ?_
            refine GX_X8_222_1 (pc := 76) C h dX8_saved_76 ?_
            refine cl_vl (pc := 79) (As := [.int v7, .int (gF z9 15 v7.toNatClampNeg), .ref (a 6)]) (rest := [.long v6]) C h (m_X1_costFrom_6 l D t a v7 (gF z9 15 v7.toNatClampNeg) z9 _ hw) mw_X1_costFrom lm_X8_225 md_X1_costFrom rcX_13 ⟨by decide, by decide⟩ ⟨Nat.zero_le _, Nat.zero_le _⟩ hl.1 rfl (Nat.le_of_ble_eq_true rfl) dX8_saved_79 (fun r18 z17 H locs hw h => ?_)
            refine lv_ladd (pc := 82) C.1 C.2.1 dX8_saved_82 ?_
            refine lv_topl (fun x19 ex19 => ?_)
            have hw := hw x19 ex19
            refine lv_lstore_n (lv' := [(2, .long x19), (0, .ref (a 0)), (4, .int v7)]) (pc := 83) C.1 C.2.1 dX8_saved_83 rfl hl (by decide) rfl (fun ls hl => ?_)
            refine lv_lload_n (pc := 84) C.1 C.2.1 dX8_saved_84 rfl (lv_at hl 0 rfl) ?_
            refine lv_aload_n (pc := 85) C.1 C.2.1 dX8_saved_85 rfl (lv_at hl 1 rfl) ?_
            refine GX_X8_28_0 (pc := 86) C h dX8_saved_86 ?_
            refine lv_iload (pc := 89) C.1 C.2.1 dX8_saved_89 (lv_at hl 2 rfl) ?_
            refine lv_aload_n (pc := 91) C.1 C.2.1 dX8_saved_91 rfl (lv_at hl 1 rfl) ?_
            refine GX_X8_28_0 (pc := 92) C h dX8_saved_92 ?_
            refine GX_X8_159_13 (pc := 95) C h dX8_saved_95 ?_
            refine lv_iload (pc := 98) C.1 C.2.1 dX8_saved_98 (lv_at hl 2 rfl) ?_
            refine ldX_20 (pc := 100) C h hw.1 dX8_saved_100 ?_
            have hw := hw.2
            refine lv_aload_n (pc := 101) C.1 C.2.1 dX8_saved_101 rfl (lv_at hl 1 rfl) ?_
            refine GX_X8_10_0 (pc := 102) C h dX8_saved_102 ?_
            refine GX_X8_222_1 (pc := 105) C h dX8_saved_105 ?_
            refine cl_vl (pc := 108) (As := [.int v7, .int (gF z17 20 v7.toNatClampNeg), .ref (a 6)]) (rest := [.long x19]) C h (m_X1_costFrom_6 l D t a v7 (gF z17 20 v7.toNatClampNeg) z17 _ hw) mw_X1_costFrom lm_X8_225 md_X1_costFrom rcX_13 ⟨by decide, by decide⟩ ⟨Nat.zero_le _, Nat.zero_le _⟩ hl.1 rfl (Nat.le_of_ble_eq_true rfl) dX8_saved_108 (fun r21 z20 H locs hw h => ?_)
            refine lv_lsub (pc := 111) C.1 C.2.1 dX8_saved_111 ?_
            refine lv_topl (fun x22 ex22 => ?_)
            have hw := hw x22 ex22
            refine lv_lstore_n (lv' := [(2, .long x22), (0, .ref (a 0)), (4, .int v7)]) (pc := 112) C.1 C.2.1 dX8_saved_112 rfl hl (by decide) rfl (fun ls hl => ?_)
            exact hw _ _ _ h (lv_sub hl [1, 0, 2] rfl))
    refine lv_istore (lv' := [(4, .int ((0 : Int32))), (2, .long ((0 : Int64))), (0, .ref (a 0)), (1, .int b1)]) (pc := 27) C.1 C.2.1 dX8_saved_27 hl (by decide) rfl (fun ls hl => ?_)
    exact hw _ _ _ h (lv_sub hl [2, 1, 0] rfl)
  · have hw := hw.2 c3
    refine lv_lconst (v := 0) (pc := 7) C.1 C.2.1 dX8_saved_7 (by decide) ?_
    exact rt_l (pc := 8) C hr hlk h hw dX8_saved_8

def wp_X7_add (b1 : Int32) (b2 : Int32) (b3 : Int32) (z : St) (P : Int32 → St → Prop) : Prop :=
  (vp_in (gI z 3909) 6 ∧ (∀ z1 : St, z1 = wR z 40 (upd (gF z 40) (gI z 3909).toNatClampNeg b1) → (vp_in (gI z1 3909) 6 ∧ (∀ z2 : St, z2 = wR z1 41 (upd (gF z1 41) (gI z1 3909).toNatClampNeg b2) → (vp_in (gI z2 3909) 6 ∧ (∀ z3 : St, z3 = wR z2 42 (upd (gF z2 42) (gI z2 3909).toNatClampNeg b3) → (∀ z4 : St, z4 = wI z3 3909 ((gI z3 3909) + ((1 : Int32))) → P ((gI z4 3909) - ((1 : Int32))) z4)))))))
set_option maxHeartbeats 4000000 in
set_option maxRecDepth 100000 in
theorem m_X7_add (l : Launch) (D : va_G) (t : Ty3) (a : Nat → Nat) (b1 : Int32) (b2 : Int32) (b3 : Int32) (z : St) (P : Int32 → St → Prop) (hw : wp_X7_add b1 b2 b3 z P) : CtI l D t yX7_add cX7_add 4 (some .int) 0 (wX t a) (wX t a z) [.ref (a 39), .int b1, .int b2, .int b3] P := by
  refine ctI_of (by decide) (Nat.le_of_ble_eq_true rfl) ?_
  intro p e s m args below meth c A ls C hr hlk h hl
  have hl : lv_has ls 4 [(0, .ref (a 39)), (1, .int b1), (2, .int b2), (3, .int b3)] := hl
  unfold wp_X7_add at hw
  refine lv_aload_n (pc := 0) C.1 C.2.1 dX7_add_0 rfl (lv_at hl 0 rfl) ?_
  refine GX_X7_9_39 (pc := 1) C h dX7_add_1 ?_
  refine lv_aload_n (pc := 4) C.1 C.2.1 dX7_add_4 rfl (lv_at hl 0 rfl) ?_
  refine GX_X7_57_39 (pc := 5) C h dX7_add_5 ?_
  refine lv_iload_n (pc := 8) C.1 C.2.1 dX7_add_8 rfl (lv_at hl 1 rfl) ?_
  refine stX_40 (pc := 9) C h hw.1 dX7_add_9 (fun z1 ez1 H locs h => ?_)
  have hw := hw.2 z1 ez1
  refine lv_aload_n (pc := 10) C.1 C.2.1 dX7_add_10 rfl (lv_at hl 0 rfl) ?_
  refine GX_X7_15_39 (pc := 11) C h dX7_add_11 ?_
  refine lv_aload_n (pc := 14) C.1 C.2.1 dX7_add_14 rfl (lv_at hl 0 rfl) ?_
  refine GX_X7_57_39 (pc := 15) C h dX7_add_15 ?_
  refine lv_iload_n (pc := 18) C.1 C.2.1 dX7_add_18 rfl (lv_at hl 2 rfl) ?_
  refine stX_41 (pc := 19) C h hw.1 dX7_add_19 (fun z2 ez2 H locs h => ?_)
  have hw := hw.2 z2 ez2
  refine lv_aload_n (pc := 20) C.1 C.2.1 dX7_add_20 rfl (lv_at hl 0 rfl) ?_
  refine GX_X7_18_39 (pc := 21) C h dX7_add_21 ?_
  refine lv_aload_n (pc := 24) C.1 C.2.1 dX7_add_24 rfl (lv_at hl 0 rfl) ?_
  refine GX_X7_57_39 (pc := 25) C h dX7_add_25 ?_
  refine lv_iload_n (pc := 28) C.1 C.2.1 dX7_add_28 rfl (lv_at hl 3 rfl) ?_
  refine stX_42 (pc := 29) C h hw.1 dX7_add_29 (fun z3 ez3 H locs h => ?_)
  have hw := hw.2 z3 ez3
  refine lv_aload_n (pc := 30) C.1 C.2.1 dX7_add_30 rfl (lv_at hl 0 rfl) ?_
  refine lv_dup (pc := 31) C.1 C.2.1 dX7_add_31 rfl ?_
  refine GX_X7_57_39 (pc := 32) C h dX7_add_32 ?_
  refine lv_iconst (v := 1) (pc := 35) C.1 C.2.1 dX7_add_35 (by decide) ?_
  refine lv_iadd (pc := 36) C.1 C.2.1 dX7_add_36 ?_
  refine PX_X7_57_39 (pc := 37) C h dX7_add_37 (fun z4 ez4 H locs h => ?_)
  have hw := hw z4 ez4
  refine lv_aload_n (pc := 40) C.1 C.2.1 dX7_add_40 rfl (lv_at hl 0 rfl) ?_
  refine GX_X7_57_39 (pc := 41) C h dX7_add_41 ?_
  refine lv_iconst (v := 1) (pc := 44) C.1 C.2.1 dX7_add_44 (by decide) ?_
  refine lv_isub (pc := 45) C.1 C.2.1 dX7_add_45 ?_
  exact rt_i (pc := 46) C hr hlk h hw dX7_add_46

def wp_X7_setFlow (b1 : Int32) (b2 : Int32) (b3 : Int32) (b4 : Int32) (b5 : Int32) (z : St) (P : St → Prop) : Prop :=
  (vp_in b1 6 ∧ (∀ z1 : St, z1 = wR z 43 (upd (gF z 43) b1.toNatClampNeg b2) → (vp_in b1 6 ∧ (∀ z2 : St, z2 = wR z1 44 (upd (gF z1 44) b1.toNatClampNeg b3) → (vp_in b1 6 ∧ (∀ z3 : St, z3 = wR z2 45 (upd (gF z2 45) b1.toNatClampNeg b4) → (vp_in b1 6 ∧ (∀ z4 : St, z4 = wR z3 46 (upd (gF z3 46) b1.toNatClampNeg b5) → P z4))))))))
set_option maxHeartbeats 4000000 in
set_option maxRecDepth 100000 in
theorem m_X7_setFlow (l : Launch) (D : va_G) (t : Ty3) (a : Nat → Nat) (b1 : Int32) (b2 : Int32) (b3 : Int32) (b4 : Int32) (b5 : Int32) (z : St) (P : St → Prop) (hw : wp_X7_setFlow b1 b2 b3 b4 b5 z P) : CtV l D t yX7_setFlow cX7_setFlow 6 none 0 (wX t a) (wX t a z) [.ref (a 39), .int b1, .int b2, .int b3, .int b4, .int b5] P := by
  refine ctV_of (by decide) (Nat.le_of_ble_eq_true rfl) ?_
  intro p e s m args below meth c A ls C hr hlk h hl
  have hl : lv_has ls 6 [(0, .ref (a 39)), (1, .int b1), (2, .int b2), (3, .int b3), (4, .int b4), (5, .int b5)] := hl
  unfold wp_X7_setFlow at hw
  refine lv_aload_n (pc := 0) C.1 C.2.1 dX7_setFlow_0 rfl (lv_at hl 0 rfl) ?_
  refine GX_X7_21_39 (pc := 1) C h dX7_setFlow_1 ?_
  refine lv_iload_n (pc := 4) C.1 C.2.1 dX7_setFlow_4 rfl (lv_at hl 1 rfl) ?_
  refine lv_iload_n (pc := 5) C.1 C.2.1 dX7_setFlow_5 rfl (lv_at hl 2 rfl) ?_
  refine stX_43 (pc := 6) C h hw.1 dX7_setFlow_6 (fun z1 ez1 H locs h => ?_)
  have hw := hw.2 z1 ez1
  refine lv_aload_n (pc := 7) C.1 C.2.1 dX7_setFlow_7 rfl (lv_at hl 0 rfl) ?_
  refine GX_X7_24_39 (pc := 8) C h dX7_setFlow_8 ?_
  refine lv_iload_n (pc := 11) C.1 C.2.1 dX7_setFlow_11 rfl (lv_at hl 1 rfl) ?_
  refine lv_iload_n (pc := 12) C.1 C.2.1 dX7_setFlow_12 rfl (lv_at hl 3 rfl) ?_
  refine stX_44 (pc := 13) C h hw.1 dX7_setFlow_13 (fun z2 ez2 H locs h => ?_)
  have hw := hw.2 z2 ez2
  refine lv_aload_n (pc := 14) C.1 C.2.1 dX7_setFlow_14 rfl (lv_at hl 0 rfl) ?_
  refine GX_X7_27_39 (pc := 15) C h dX7_setFlow_15 ?_
  refine lv_iload_n (pc := 18) C.1 C.2.1 dX7_setFlow_18 rfl (lv_at hl 1 rfl) ?_
  refine lv_iload (pc := 19) C.1 C.2.1 dX7_setFlow_19 (lv_at hl 4 rfl) ?_
  refine stX_45 (pc := 21) C h hw.1 dX7_setFlow_21 (fun z3 ez3 H locs h => ?_)
  have hw := hw.2 z3 ez3
  refine lv_aload_n (pc := 22) C.1 C.2.1 dX7_setFlow_22 rfl (lv_at hl 0 rfl) ?_
  refine GX_X7_30_39 (pc := 23) C h dX7_setFlow_23 ?_
  refine lv_iload_n (pc := 26) C.1 C.2.1 dX7_setFlow_26 rfl (lv_at hl 1 rfl) ?_
  refine lv_iload (pc := 27) C.1 C.2.1 dX7_setFlow_27 (lv_at hl 5 rfl) ?_
  refine stX_46 (pc := 29) C h hw.1 dX7_setFlow_29 (fun z4 ez4 H locs h => ?_)
  have hw := hw.2 z4 ez4
  exact rt_v (pc := 30) C hr hlk h hw dX7_setFlow_30

def wp_X8_store (b1 : Int32) (b2 : Int32) (b3 : Int32) (b4 : Int32) (b5 : Int32) (b6 : Int32) (b7 : Int32) (z : St) (P : Int32 → St → Prop) : Prop :=
  (∀ K1 : St → Prop, (∀ (z2 : St), (wp_X8_refuse ((-1 : Int32)) z2 (fun r4 z3 => P r4 z3)) → K1 z2) → (((b2 < ((1 : Int32))) → K1 z) ∧ (¬ (b2 < ((1 : Int32))) → (((((40 : Int32)) < b2) → K1 z) ∧ (¬ (((40 : Int32)) < b2) → (wp_X8_isWithin b3 b2 z (fun r8 z7 => (((r8 = 0) → K1 z7) ∧ (¬ (r8 = 0) → (((b7 < ((1 : Int32))) → K1 z7) ∧ (¬ (b7 < ((1 : Int32))) → (((b7 ≤ ((1000 : Int32))) → (wp_X8_isWithin b4 ((10 : Int32)) z7 (fun r13 z12 => (∀ K14 : St → Prop, (∀ (z15 : St), (wp_X8_refuse ((-1 : Int32)) z15 (fun r17 z16 => P r17 z16)) → K14 z15) → (((r13 = 0) → K14 z12) ∧ (¬ (r13 = 0) → (wp_X8_isWithin b5 ((10 : Int32)) z12 (fun r20 z19 => (((r20 = 0) → K14 z19) ∧ (¬ (r20 = 0) → (wp_X8_isWithin b6 ((3 : Int32)) z19 (fun r23 z22 => (((¬ r23 = 0) → (wp_X0_has b1 z22 (fun r26 z25 => (((¬ r26 = 0) → ((((gI z25 3909) < ((6 : Int32))) → (wp_X7_add b1 b2 b3 z25 (fun r30 z29 => (wp_X7_setFlow r30 b4 b5 b6 b7 z29 (fun z31 => (wp_X8_accept r30 z31 (fun r34 z33 => P r34 z33))))))) ∧ (¬ ((gI z25 3909) < ((6 : Int32))) → (wp_X8_refuse ((-5 : Int32)) z25 (fun r36 z35 => P r36 z35))))) ∧ (r26 = 0 → (wp_X8_refuse ((-2 : Int32)) z25 (fun r38 z37 => P r38 z37))))))) ∧ (r23 = 0 → K14 z22)))))))))))))) ∧ (¬ (b7 ≤ ((1000 : Int32))) → K1 z7)))))))))))))
set_option maxHeartbeats 4000000 in
set_option maxRecDepth 100000 in
theorem m_X8_store (l : Launch) (D : va_G) (t : Ty3) (a : Nat → Nat) (b1 : Int32) (b2 : Int32) (b3 : Int32) (b4 : Int32) (b5 : Int32) (b6 : Int32) (b7 : Int32) (z : St) (P : Int32 → St → Prop) (hw : wp_X8_store b1 b2 b3 b4 b5 b6 b7 z P) : CtI l D t yX8_store cX8_store 9 (some .int) 1 (wX t a) (wX t a z) [.ref (a 0), .int b1, .int b2, .int b3, .int b4, .int b5, .int b6, .int b7] P := by
  refine ctI_of (by decide) (Nat.le_of_ble_eq_true rfl) ?_
  intro p e s m args below meth c A ls C hr hlk h hl
  have hl : lv_has ls 9 [(0, .ref (a 0)), (1, .int b1), (2, .int b2), (3, .int b3), (4, .int b4), (5, .int b5), (6, .int b6), (7, .int b7)] := hl
  unfold wp_X8_store at hw
  refine lv_iload_n (pc := 0) C.1 C.2.1 dX8_store_0 rfl (lv_at hl 2 rfl) ?_
  refine lv_iconst (v := 1) (pc := 1) C.1 C.2.1 dX8_store_1 (by decide) ?_
  have hw := hw (fun (z2 : St) => ∀ (H : Heap) (locs : List Loc) (ls : Array Slot), wd D t A s (wX t a z2) H locs → lv_has ls 9 [(0, .ref (a 0))] → W p l e (rmd 1) s m args below meth c H locs 0 0 (QI D t A (wX t a) P below args s) (F0 m 33 ls [])) (by
      intro z2 hw H locs ls h hl
      refine lv_aload_n (pc := 33) C.1 C.2.1 dX8_store_33 rfl (lv_at hl 0 rfl) ?_
      refine lv_iconst (v := -1) (pc := 34) C.1 C.2.1 dX8_store_34 (by decide) ?_
      refine cl_vi (pc := 35) (As := [.int ((-1 : Int32))]) (rest := []) C h (m_X8_refuse l D t a ((-1 : Int32)) z2 _ hw) mw_X8_refuse lm_X8_81 md_X8_refuse rcX_0 ⟨by decide, by decide⟩ ⟨Nat.zero_le _, Nat.zero_le _⟩ hl.1 rfl (Nat.le_of_ble_eq_true rfl) dX8_store_35 (fun r4 z3 H locs hw h => ?_)
      exact rt_i (pc := 38) C hr hlk h hw dX8_store_38)
  refine lv_icmp_lt (tgt := 33) (pc := 2) C.1 C.2.1 dX8_store_2 (by decide) (fun c5 => ?_) (fun c5 => ?_)
  · have hw := hw.1 c5
    exact hw _ _ _ h (lv_sub hl [0] rfl)
  · have hw := hw.2 c5
    refine lv_iload_n (pc := 5) C.1 C.2.1 dX8_store_5 rfl (lv_at hl 2 rfl) ?_
    refine lv_bipush (v := 40) (pc := 6) C.1 C.2.1 dX8_store_6 (by decide) ?_
    refine lv_icmp_gt (tgt := 33) (pc := 8) C.1 C.2.1 dX8_store_8 (by decide) (fun c6 => ?_) (fun c6 => ?_)
    · have hw := hw.1 c6
      exact hw _ _ _ h (lv_sub hl [0] rfl)
    · have hw := hw.2 c6
      refine lv_iload_n (pc := 11) C.1 C.2.1 dX8_store_11 rfl (lv_at hl 3 rfl) ?_
      refine lv_iload_n (pc := 12) C.1 C.2.1 dX8_store_12 rfl (lv_at hl 2 rfl) ?_
      refine cl_si (pc := 13) (As := [.int b3, .int b2]) (rest := []) C h (m_X8_isWithin l D t a b3 b2 z _ hw) mw_X8_isWithin lm_X8_113 md_X8_isWithin ⟨by decide, by decide⟩ ⟨Nat.zero_le _, Nat.zero_le _⟩ hl.1 rfl (Nat.le_of_ble_eq_true rfl) dX8_store_13 (fun r8 z7 H locs hw h => ?_)
      refine lv_if_eq (tgt := 33) (pc := 16) C.1 C.2.1 dX8_store_16 (by decide) (fun c9 => ?_) (fun c9 => ?_)
      · have hw := hw.1 c9
        exact hw _ _ _ h (lv_sub hl [0] rfl)
      · have hw := hw.2 c9
        refine lv_iload (pc := 19) C.1 C.2.1 dX8_store_19 (lv_at hl 7 rfl) ?_
        refine lv_iconst (v := 1) (pc := 21) C.1 C.2.1 dX8_store_21 (by decide) ?_
        refine lv_icmp_lt (tgt := 33) (pc := 22) C.1 C.2.1 dX8_store_22 (by decide) (fun c10 => ?_) (fun c10 => ?_)
        · have hw := hw.1 c10
          exact hw _ _ _ h (lv_sub hl [0] rfl)
        · have hw := hw.2 c10
          refine lv_iload (pc := 25) C.1 C.2.1 dX8_store_25 (lv_at hl 7 rfl) ?_
          refine lv_sipush (v := 1000) (pc := 27) C.1 C.2.1 dX8_store_27 (by decide) ?_
          refine lv_icmp_le (tgt := 39) (pc := 30) C.1 C.2.1 dX8_store_30 (by decide) (fun c11 => ?_) (fun c11 => ?_)
          · have hw := hw.1 c11
            refine lv_iload (pc := 39) C.1 C.2.1 dX8_store_39 (lv_at hl 4 rfl) ?_
            refine lv_bipush (v := 10) (pc := 41) C.1 C.2.1 dX8_store_41 (by decide) ?_
            refine cl_si (pc := 43) (As := [.int b4, .int ((10 : Int32))]) (rest := []) C h (m_X8_isWithin l D t a b4 ((10 : Int32)) z7 _ hw) mw_X8_isWithin lm_X8_113 md_X8_isWithin ⟨by decide, by decide⟩ ⟨Nat.zero_le _, Nat.zero_le _⟩ hl.1 rfl (Nat.le_of_ble_eq_true rfl) dX8_store_43 (fun r13 z12 H locs hw h => ?_)
            have hw := hw (fun (z15 : St) => ∀ (H : Heap) (locs : List Loc) (ls : Array Slot), wd D t A s (wX t a z15) H locs → lv_has ls 9 [(0, .ref (a 0))] → W p l e (rmd 1) s m args below meth c H locs 0 0 (QI D t A (wX t a) P below args s) (F0 m 68 ls [])) (by
                intro z15 hw H locs ls h hl
                refine lv_aload_n (pc := 68) C.1 C.2.1 dX8_store_68 rfl (lv_at hl 0 rfl) ?_
                refine lv_iconst (v := -1) (pc := 69) C.1 C.2.1 dX8_store_69 (by decide) ?_
                refine cl_vi (pc := 70) (As := [.int ((-1 : Int32))]) (rest := []) C h (m_X8_refuse l D t a ((-1 : Int32)) z15 _ hw) mw_X8_refuse lm_X8_81 md_X8_refuse rcX_0 ⟨by decide, by decide⟩ ⟨Nat.zero_le _, Nat.zero_le _⟩ hl.1 rfl (Nat.le_of_ble_eq_true rfl) dX8_store_70 (fun r17 z16 H locs hw h => ?_)
                exact rt_i (pc := 73) C hr hlk h hw dX8_store_73)
            refine lv_if_eq (tgt := 68) (pc := 46) C.1 C.2.1 dX8_store_46 (by decide) (fun c18 => ?_) (fun c18 => ?_)
            · have hw := hw.1 c18
              exact hw _ _ _ h (lv_sub hl [0] rfl)
            · have hw := hw.2 c18
              refine lv_iload (pc := 49) C.1 C.2.1 dX8_store_49 (lv_at hl 5 rfl) ?_
              refine lv_bipush (v := 10) (pc := 51) C.1 C.2.1 dX8_store_51 (by decide) ?_
              refine cl_si (pc := 53) (As := [.int b5, .int ((10 : Int32))]) (rest := []) C h (m_X8_isWithin l D t a b5 ((10 : Int32)) z12 _ hw) mw_X8_isWithin lm_X8_113 md_X8_isWithin ⟨by decide, by decide⟩ ⟨Nat.zero_le _, Nat.zero_le _⟩ hl.1 rfl (Nat.le_of_ble_eq_true rfl) dX8_store_53 (fun r20 z19 H locs hw h => ?_)
              refine lv_if_eq (tgt := 68) (pc := 56) C.1 C.2.1 dX8_store_56 (by decide) (fun c21 => ?_) (fun c21 => ?_)
              · have hw := hw.1 c21
                exact hw _ _ _ h (lv_sub hl [0] rfl)
              · have hw := hw.2 c21
                refine lv_iload (pc := 59) C.1 C.2.1 dX8_store_59 (lv_at hl 6 rfl) ?_
                refine lv_iconst (v := 3) (pc := 61) C.1 C.2.1 dX8_store_61 (by decide) ?_
                refine cl_si (pc := 62) (As := [.int b6, .int ((3 : Int32))]) (rest := []) C h (m_X8_isWithin l D t a b6 ((3 : Int32)) z19 _ hw) mw_X8_isWithin lm_X8_113 md_X8_isWithin ⟨by decide, by decide⟩ ⟨Nat.zero_le _, Nat.zero_le _⟩ hl.1 rfl (Nat.le_of_ble_eq_true rfl) dX8_store_62 (fun r23 z22 H locs hw h => ?_)
                refine lv_if_ne (tgt := 74) (pc := 65) C.1 C.2.1 dX8_store_65 (by decide) (fun c24 => ?_) (fun c24 => ?_)
                · have hw := hw.1 c24
                  refine lv_aload_n (pc := 74) C.1 C.2.1 dX8_store_74 rfl (lv_at hl 0 rfl) ?_
                  refine GX_X8_19_0 (pc := 75) C h dX8_store_75 ?_
                  refine lv_iload_n (pc := 78) C.1 C.2.1 dX8_store_78 rfl (lv_at hl 1 rfl) ?_
                  refine cl_vi (pc := 79) (As := [.int b1]) (rest := []) C h (m_X0_has l D t a b1 z22 _ hw) mw_X0_has lm_X8_121 md_X0_has rcX_7 ⟨by decide, by decide⟩ ⟨Nat.zero_le _, Nat.zero_le _⟩ hl.1 rfl (Nat.le_of_ble_eq_true rfl) dX8_store_79 (fun r26 z25 H locs hw h => ?_)
                  refine lv_if_ne (tgt := 92) (pc := 82) C.1 C.2.1 dX8_store_82 (by decide) (fun c27 => ?_) (fun c27 => ?_)
                  · have hw := hw.1 c27
                    refine lv_aload_n (pc := 92) C.1 C.2.1 dX8_store_92 rfl (lv_at hl 0 rfl) ?_
                    refine GX_X8_53_0 (pc := 93) C h dX8_store_93 ?_
                    refine GX_X8_229_39 (pc := 96) C h dX8_store_96 ?_
                    refine lv_bipush (v := 6) (pc := 99) C.1 C.2.1 dX8_store_99 (by decide) ?_
                    refine lv_icmp_lt (tgt := 111) (pc := 101) C.1 C.2.1 dX8_store_101 (by decide) (fun c28 => ?_) (fun c28 => ?_)
                    · have hw := hw.1 c28
                      refine lv_aload_n (pc := 111) C.1 C.2.1 dX8_store_111 rfl (lv_at hl 0 rfl) ?_
                      refine GX_X8_53_0 (pc := 112) C h dX8_store_112 ?_
                      refine lv_iload_n (pc := 115) C.1 C.2.1 dX8_store_115 rfl (lv_at hl 1 rfl) ?_
                      refine lv_iload_n (pc := 116) C.1 C.2.1 dX8_store_116 rfl (lv_at hl 2 rfl) ?_
                      refine lv_iload_n (pc := 117) C.1 C.2.1 dX8_store_117 rfl (lv_at hl 3 rfl) ?_
                      refine cl_vi (pc := 118) (As := [.int b1, .int b2, .int b3]) (rest := []) C h (m_X7_add l D t a b1 b2 b3 z25 _ hw) mw_X7_add lm_X8_230 md_X7_add rcX_39 ⟨by decide, by decide⟩ ⟨Nat.zero_le _, Nat.zero_le _⟩ hl.1 rfl (Nat.le_of_ble_eq_true rfl) dX8_store_118 (fun r30 z29 H locs hw h => ?_)
                      refine lv_istore (lv' := [(8, .int r30), (0, .ref (a 0)), (1, .int b1), (2, .int b2), (3, .int b3), (4, .int b4), (5, .int b5), (6, .int b6), (7, .int b7)]) (pc := 121) C.1 C.2.1 dX8_store_121 hl (by decide) rfl (fun ls hl => ?_)
                      refine lv_aload_n (pc := 123) C.1 C.2.1 dX8_store_123 rfl (lv_at hl 1 rfl) ?_
                      refine GX_X8_53_0 (pc := 124) C h dX8_store_124 ?_
                      refine lv_iload (pc := 127) C.1 C.2.1 dX8_store_127 (lv_at hl 0 rfl) ?_
                      refine lv_iload (pc := 129) C.1 C.2.1 dX8_store_129 (lv_at hl 5 rfl) ?_
                      refine lv_iload (pc := 131) C.1 C.2.1 dX8_store_131 (lv_at hl 6 rfl) ?_
                      refine lv_iload (pc := 133) C.1 C.2.1 dX8_store_133 (lv_at hl 7 rfl) ?_
                      refine lv_iload (pc := 135) C.1 C.2.1 dX8_store_135 (lv_at hl 8 rfl) ?_
                      refine cl_vv (pc := 137) (As := [.int r30, .int b4, .int b5, .int b6, .int b7]) (rest := []) C h (m_X7_setFlow l D t a r30 b4 b5 b6 b7 z29 _ hw) mw_X7_setFlow lm_X8_233 md_X7_setFlow rcX_39 ⟨by decide, by decide⟩ ⟨Nat.zero_le _, Nat.zero_le _⟩ hl.1 rfl (Nat.le_of_ble_eq_true rfl) dX8_store_137 (fun z31 H locs hw h => ?_)
                      refine lv_aload_n (pc := 140) C.1 C.2.1 dX8_store_140 rfl (lv_at hl 1 rfl) ?_
                      refine lv_iload (pc := 141) C.1 C.2.1 dX8_store_141 (lv_at hl 0 rfl) ?_
                      refine cl_vi (pc := 143) (As := [.int r30]) (rest := []) C h (m_X8_accept l D t a r30 z31 _ hw) mw_X8_accept lm_X8_99 md_X8_accept rcX_0 ⟨by decide, by decide⟩ ⟨Nat.zero_le _, Nat.zero_le _⟩ hl.1 rfl (Nat.le_of_ble_eq_true rfl) dX8_store_143 (fun r34 z33 H locs hw h => ?_)
                      exact rt_i (pc := 146) C hr hlk h hw dX8_store_146
                    · have hw := hw.2 c28
                      refine lv_aload_n (pc := 104) C.1 C.2.1 dX8_store_104 rfl (lv_at hl 0 rfl) ?_
                      refine lv_bipush (v := -5) (pc := 105) C.1 C.2.1 dX8_store_105 (by decide) ?_
                      refine cl_vi (pc := 107) (As := [.int ((-5 : Int32))]) (rest := []) C h (m_X8_refuse l D t a ((-5 : Int32)) z25 _ hw) mw_X8_refuse lm_X8_81 md_X8_refuse rcX_0 ⟨by decide, by decide⟩ ⟨Nat.zero_le _, Nat.zero_le _⟩ hl.1 rfl (Nat.le_of_ble_eq_true rfl) dX8_store_107 (fun r36 z35 H locs hw h => ?_)
                      exact rt_i (pc := 110) C hr hlk h hw dX8_store_110
                  · have hw := hw.2 c27
                    refine lv_aload_n (pc := 85) C.1 C.2.1 dX8_store_85 rfl (lv_at hl 0 rfl) ?_
                    refine lv_bipush (v := -2) (pc := 86) C.1 C.2.1 dX8_store_86 (by decide) ?_
                    refine cl_vi (pc := 88) (As := [.int ((-2 : Int32))]) (rest := []) C h (m_X8_refuse l D t a ((-2 : Int32)) z25 _ hw) mw_X8_refuse lm_X8_81 md_X8_refuse rcX_0 ⟨by decide, by decide⟩ ⟨Nat.zero_le _, Nat.zero_le _⟩ hl.1 rfl (Nat.le_of_ble_eq_true rfl) dX8_store_88 (fun r38 z37 H locs hw h => ?_)
                    exact rt_i (pc := 91) C hr hlk h hw dX8_store_91
                · have hw := hw.2 c24
                  exact hw _ _ _ h (lv_sub hl [0] rfl)
          · have hw := hw.2 c11
            exact hw _ _ _ h (lv_sub hl [0] rfl)

def wp_X7_has (b1 : Int32) (z : St) (P : Int32 → St → Prop) : Prop :=
  (((b1 < 0) → P ((0 : Int32)) z) ∧ (¬ (b1 < 0) → ((((gI z 3909) ≤ b1) → P ((0 : Int32)) z) ∧ (¬ ((gI z 3909) ≤ b1) → P ((1 : Int32)) z))))
set_option maxHeartbeats 4000000 in
set_option maxRecDepth 100000 in
theorem m_X7_has (l : Launch) (D : va_G) (t : Ty3) (a : Nat → Nat) (b1 : Int32) (z : St) (P : Int32 → St → Prop) (hw : wp_X7_has b1 z P) : CtI l D t yX7_has cX7_has 2 (some .boolean) 0 (wX t a) (wX t a z) [.ref (a 39), .int b1] P := by
  refine ctI_of (by decide) (Nat.le_of_ble_eq_true rfl) ?_
  intro p e s m args below meth c A ls C hr hlk h hl
  have hl : lv_has ls 2 [(0, .ref (a 39)), (1, .int b1)] := hl
  unfold wp_X7_has at hw
  refine lv_iload_n (pc := 0) C.1 C.2.1 dX7_has_0 rfl (lv_at hl 1 rfl) ?_
  refine lv_if_lt (tgt := 16) (pc := 1) C.1 C.2.1 dX7_has_1 (by decide) (fun c1 => ?_) (fun c1 => ?_)
  · have hw := hw.1 c1
    refine lv_iconst (v := 0) (pc := 16) C.1 C.2.1 dX7_has_16 (by decide) ?_
    exact rt_z (pc := 17) C hr hlk h (Or.inl rfl) hw dX7_has_17
  · have hw := hw.2 c1
    refine lv_iload_n (pc := 4) C.1 C.2.1 dX7_has_4 rfl (lv_at hl 1 rfl) ?_
    refine lv_aload_n (pc := 5) C.1 C.2.1 dX7_has_5 rfl (lv_at hl 0 rfl) ?_
    refine GX_X7_57_39 (pc := 6) C h dX7_has_6 ?_
    refine lv_icmp_ge (tgt := 16) (pc := 9) C.1 C.2.1 dX7_has_9 (by decide) (fun c2 => ?_) (fun c2 => ?_)
    · have hw := hw.1 c2
      refine lv_iconst (v := 0) (pc := 16) C.1 C.2.1 dX7_has_16 (by decide) ?_
      exact rt_z (pc := 17) C hr hlk h (Or.inl rfl) hw dX7_has_17
    · have hw := hw.2 c2
      refine lv_iconst (v := 1) (pc := 12) C.1 C.2.1 dX7_has_12 (by decide) ?_
      refine lv_goto (tgt := 17) (pc := 13) C.1 C.2.1 dX7_has_13 (by decide) ?_
      exact rt_z (pc := 17) C hr hlk h (Or.inr rfl) hw dX7_has_17

def wp_X7_mostOf (b1 : Int32) (z : St) (P : Int32 → St → Prop) : Prop :=
  (wp_X7_has b1 z (fun r2 z1 => (((r2 = 0) → P ((40 : Int32)) z1) ∧ (¬ (r2 = 0) → (vp_in b1 6 ∧ P (gF z1 41 b1.toNatClampNeg) z1)))))
set_option maxHeartbeats 4000000 in
set_option maxRecDepth 100000 in
theorem m_X7_mostOf (l : Launch) (D : va_G) (t : Ty3) (a : Nat → Nat) (b1 : Int32) (z : St) (P : Int32 → St → Prop) (hw : wp_X7_mostOf b1 z P) : CtI l D t yX7_mostOf cX7_mostOf 2 (some .int) 1 (wX t a) (wX t a z) [.ref (a 39), .int b1] P := by
  refine ctI_of (by decide) (Nat.le_of_ble_eq_true rfl) ?_
  intro p e s m args below meth c A ls C hr hlk h hl
  have hl : lv_has ls 2 [(0, .ref (a 39)), (1, .int b1)] := hl
  unfold wp_X7_mostOf at hw
  refine lv_aload_n (pc := 0) C.1 C.2.1 dX7_mostOf_0 rfl (lv_at hl 0 rfl) ?_
  refine lv_iload_n (pc := 1) C.1 C.2.1 dX7_mostOf_1 rfl (lv_at hl 1 rfl) ?_
  refine cl_vi (pc := 2) (As := [.int b1]) (rest := []) C h (m_X7_has l D t a b1 z _ hw) mw_X7_has lm_X7_64 md_X7_has rcX_39 ⟨by decide, by decide⟩ ⟨Nat.zero_le _, Nat.zero_le _⟩ hl.1 rfl (Nat.le_of_ble_eq_true rfl) dX7_mostOf_2 (fun r2 z1 H locs hw h => ?_)
  refine lv_if_eq (tgt := 17) (pc := 5) C.1 C.2.1 dX7_mostOf_5 (by decide) (fun c3 => ?_) (fun c3 => ?_)
  · have hw := hw.1 c3
    refine lv_bipush (v := 40) (pc := 17) C.1 C.2.1 dX7_mostOf_17 (by decide) ?_
    exact rt_i (pc := 19) C hr hlk h hw dX7_mostOf_19
  · have hw := hw.2 c3
    refine lv_aload_n (pc := 8) C.1 C.2.1 dX7_mostOf_8 rfl (lv_at hl 0 rfl) ?_
    refine GX_X7_15_39 (pc := 9) C h dX7_mostOf_9 ?_
    refine lv_iload_n (pc := 12) C.1 C.2.1 dX7_mostOf_12 rfl (lv_at hl 1 rfl) ?_
    refine ldX_41 (pc := 13) C h hw.1 dX7_mostOf_13 ?_
    have hw := hw.2
    refine lv_goto (tgt := 19) (pc := 14) C.1 C.2.1 dX7_mostOf_14 (by decide) ?_
    exact rt_i (pc := 19) C hr hlk h hw dX7_mostOf_19

def wp_X8_level (b1 : Int32) (b2 : Int32) (z : St) (P : Int32 → St → Prop) : Prop :=
  (wp_X7_mostOf b1 z (fun r2 z1 => (wp_X8_isWithin b2 r2 z1 (fun r4 z3 => (((¬ r4 = 0) → (wp_X7_has b1 z3 (fun r7 z6 => (((¬ r7 = 0) → (vp_in b1 6 ∧ (∀ x9 : Int32, x9 = gF z6 42 b1.toNatClampNeg → (vp_in b1 6 ∧ (∀ z10 : St, z10 = wR z6 42 (upd (gF z6 42) b1.toNatClampNeg b2) → (wp_X8_accept x9 z10 (fun r12 z11 => P r12 z11))))))) ∧ (r7 = 0 → (wp_X8_refuse ((-2 : Int32)) z6 (fun r14 z13 => P r14 z13))))))) ∧ (r4 = 0 → (wp_X8_refuse ((-1 : Int32)) z3 (fun r16 z15 => P r16 z15))))))))
set_option maxHeartbeats 4000000 in
set_option maxRecDepth 100000 in
theorem m_X8_level (l : Launch) (D : va_G) (t : Ty3) (a : Nat → Nat) (b1 : Int32) (b2 : Int32) (z : St) (P : Int32 → St → Prop) (hw : wp_X8_level b1 b2 z P) : CtI l D t yX8_level cX8_level 4 (some .int) 2 (wX t a) (wX t a z) [.ref (a 0), .int b1, .int b2] P := by
  refine ctI_of (by decide) (Nat.le_of_ble_eq_true rfl) ?_
  intro p e s m args below meth c A ls C hr hlk h hl
  have hl : lv_has ls 4 [(0, .ref (a 0)), (1, .int b1), (2, .int b2)] := hl
  unfold wp_X8_level at hw
  refine lv_iload_n (pc := 0) C.1 C.2.1 dX8_level_0 rfl (lv_at hl 2 rfl) ?_
  refine lv_aload_n (pc := 1) C.1 C.2.1 dX8_level_1 rfl (lv_at hl 0 rfl) ?_
  refine GX_X8_53_0 (pc := 2) C h dX8_level_2 ?_
  refine lv_iload_n (pc := 5) C.1 C.2.1 dX8_level_5 rfl (lv_at hl 1 rfl) ?_
  refine cl_vi (pc := 6) (As := [.int b1]) (rest := [.int b2]) C h (m_X7_mostOf l D t a b1 z _ hw) mw_X7_mostOf lm_X8_236 md_X7_mostOf rcX_39 ⟨by decide, by decide⟩ ⟨Nat.zero_le _, Nat.zero_le _⟩ hl.1 rfl (Nat.le_of_ble_eq_true rfl) dX8_level_6 (fun r2 z1 H locs hw h => ?_)
  refine cl_si (pc := 9) (As := [.int b2, .int r2]) (rest := []) C h (m_X8_isWithin l D t a b2 r2 z1 _ hw) mw_X8_isWithin lm_X8_113 md_X8_isWithin ⟨by decide, by decide⟩ ⟨Nat.zero_le _, Nat.zero_le _⟩ hl.1 rfl (Nat.le_of_ble_eq_true rfl) dX8_level_9 (fun r4 z3 H locs hw h => ?_)
  refine lv_if_ne (tgt := 21) (pc := 12) C.1 C.2.1 dX8_level_12 (by decide) (fun c5 => ?_) (fun c5 => ?_)
  · have hw := hw.1 c5
    refine lv_aload_n (pc := 21) C.1 C.2.1 dX8_level_21 rfl (lv_at hl 0 rfl) ?_
    refine GX_X8_53_0 (pc := 22) C h dX8_level_22 ?_
    refine lv_iload_n (pc := 25) C.1 C.2.1 dX8_level_25 rfl (lv_at hl 1 rfl) ?_
    refine cl_vi (pc := 26) (As := [.int b1]) (rest := []) C h (m_X7_has l D t a b1 z3 _ hw) mw_X7_has lm_X8_239 md_X7_has rcX_39 ⟨by decide, by decide⟩ ⟨Nat.zero_le _, Nat.zero_le _⟩ hl.1 rfl (Nat.le_of_ble_eq_true rfl) dX8_level_26 (fun r7 z6 H locs hw h => ?_)
    refine lv_if_ne (tgt := 39) (pc := 29) C.1 C.2.1 dX8_level_29 (by decide) (fun c8 => ?_) (fun c8 => ?_)
    · have hw := hw.1 c8
      refine lv_aload_n (pc := 39) C.1 C.2.1 dX8_level_39 rfl (lv_at hl 0 rfl) ?_
      refine GX_X8_53_0 (pc := 40) C h dX8_level_40 ?_
      refine GX_X8_240_39 (pc := 43) C h dX8_level_43 ?_
      refine lv_iload_n (pc := 46) C.1 C.2.1 dX8_level_46 rfl (lv_at hl 1 rfl) ?_
      refine ldX_42 (pc := 47) C h hw.1 dX8_level_47 ?_
      have hw := hw.2
      refine lv_topi (fun x9 ex9 => ?_)
      have hw := hw x9 ex9
      refine lv_istore_n (lv' := [(3, .int x9), (0, .ref (a 0)), (1, .int b1), (2, .int b2)]) (pc := 48) C.1 C.2.1 dX8_level_48 rfl hl (by decide) rfl (fun ls hl => ?_)
      refine lv_aload_n (pc := 49) C.1 C.2.1 dX8_level_49 rfl (lv_at hl 1 rfl) ?_
      refine GX_X8_53_0 (pc := 50) C h dX8_level_50 ?_
      refine GX_X8_240_39 (pc := 53) C h dX8_level_53 ?_
      refine lv_iload_n (pc := 56) C.1 C.2.1 dX8_level_56 rfl (lv_at hl 2 rfl) ?_
      refine lv_iload_n (pc := 57) C.1 C.2.1 dX8_level_57 rfl (lv_at hl 3 rfl) ?_
      refine stX_42 (pc := 58) C h hw.1 dX8_level_58 (fun z10 ez10 H locs h => ?_)
      have hw := hw.2 z10 ez10
      refine lv_aload_n (pc := 59) C.1 C.2.1 dX8_level_59 rfl (lv_at hl 1 rfl) ?_
      refine lv_iload_n (pc := 60) C.1 C.2.1 dX8_level_60 rfl (lv_at hl 0 rfl) ?_
      refine cl_vi (pc := 61) (As := [.int x9]) (rest := []) C h (m_X8_accept l D t a x9 z10 _ hw) mw_X8_accept lm_X8_99 md_X8_accept rcX_0 ⟨by decide, by decide⟩ ⟨Nat.zero_le _, Nat.zero_le _⟩ hl.1 rfl (Nat.le_of_ble_eq_true rfl) dX8_level_61 (fun r12 z11 H locs hw h => ?_)
      exact rt_i (pc := 64) C hr hlk h hw dX8_level_64
    · have hw := hw.2 c8
      refine lv_aload_n (pc := 32) C.1 C.2.1 dX8_level_32 rfl (lv_at hl 0 rfl) ?_
      refine lv_bipush (v := -2) (pc := 33) C.1 C.2.1 dX8_level_33 (by decide) ?_
      refine cl_vi (pc := 35) (As := [.int ((-2 : Int32))]) (rest := []) C h (m_X8_refuse l D t a ((-2 : Int32)) z6 _ hw) mw_X8_refuse lm_X8_81 md_X8_refuse rcX_0 ⟨by decide, by decide⟩ ⟨Nat.zero_le _, Nat.zero_le _⟩ hl.1 rfl (Nat.le_of_ble_eq_true rfl) dX8_level_35 (fun r14 z13 H locs hw h => ?_)
      exact rt_i (pc := 38) C hr hlk h hw dX8_level_38
  · have hw := hw.2 c5
    refine lv_aload_n (pc := 15) C.1 C.2.1 dX8_level_15 rfl (lv_at hl 0 rfl) ?_
    refine lv_iconst (v := -1) (pc := 16) C.1 C.2.1 dX8_level_16 (by decide) ?_
    refine cl_vi (pc := 17) (As := [.int ((-1 : Int32))]) (rest := []) C h (m_X8_refuse l D t a ((-1 : Int32)) z3 _ hw) mw_X8_refuse lm_X8_81 md_X8_refuse rcX_0 ⟨by decide, by decide⟩ ⟨Nat.zero_le _, Nat.zero_le _⟩ hl.1 rfl (Nat.le_of_ble_eq_true rfl) dX8_level_17 (fun r16 z15 H locs hw h => ?_)
    exact rt_i (pc := 20) C hr hlk h hw dX8_level_20

def wp_X7_mostWithin (b1 : Int32) (b2 : Int32) (b3 : Int32) (z : St) (P : Int32 → St → Prop) : Prop :=
  (∀ K2 : Int32 → St → Prop, (∀ (v1 : Int32) (z3 : St), (((b2 ≤ v1) → P v1 z3) ∧ (¬ (b2 ≤ v1) → (((b1 < ((v1 + ((1 : Int32))) * b3)) → P v1 z3) ∧ (¬ (b1 < ((v1 + ((1 : Int32))) * b3)) → (∀ x6 : Int32, x6 = v1 + (1) → K2 x6 z3))))) → K2 v1 z3) → K2 ((0 : Int32)) z)
set_option maxHeartbeats 4000000 in
set_option maxRecDepth 100000 in
theorem m_X7_mostWithin (l : Launch) (D : va_G) (t : Ty3) (a : Nat → Nat) (b1 : Int32) (b2 : Int32) (b3 : Int32) (z : St) (P : Int32 → St → Prop) (hw : wp_X7_mostWithin b1 b2 b3 z P) : CtI l D t yX7_mostWithin cX7_mostWithin 4 (some .int) 0 (wX t a) (wX t a z) [.int b1, .int b2, .int b3] P := by
  refine ctI_of (by decide) (Nat.le_of_ble_eq_true rfl) ?_
  intro p e s m args below meth c A ls C hr hlk h hl
  have hl : lv_has ls 4 [(0, .int b1), (1, .int b2), (2, .int b3)] := hl
  unfold wp_X7_mostWithin at hw
  refine lv_iconst (v := 0) (pc := 0) C.1 C.2.1 dX7_mostWithin_0 (by decide) ?_
  have hw := hw (fun (v1 : Int32) (z3 : St) => ∀ (H : Heap) (locs : List Loc) (ls : Array Slot), wd D t A s (wX t a z3) H locs → lv_has ls 4 [(0, .int b1), (1, .int b2), (2, .int b3), (3, .int v1)] → W p l e (rmd 0) s m args below meth c H locs 0 0 (QI D t A (wX t a) P below args s) (F0 m 2 ls [])) (by
      intro v1 z3 hw H locs ls h hl
      refine lv_iload_n (pc := 2) C.1 C.2.1 dX7_mostWithin_2 rfl (lv_at hl 3 rfl) ?_
      refine lv_iload_n (pc := 3) C.1 C.2.1 dX7_mostWithin_3 rfl (lv_at hl 1 rfl) ?_
      refine lv_icmp_ge (tgt := 22) (pc := 4) C.1 C.2.1 dX7_mostWithin_4 (by decide) (fun c4 => ?_) (fun c4 => ?_)
      · have hw := hw.1 c4
        refine lv_iload_n (pc := 22) C.1 C.2.1 dX7_mostWithin_22 rfl (lv_at hl 3 rfl) ?_
        exact rt_i (pc := 23) C hr hlk h hw dX7_mostWithin_23
      · have hw := hw.2 c4
        refine lv_iload_n (pc := 7) C.1 C.2.1 dX7_mostWithin_7 rfl (lv_at hl 3 rfl) ?_
        refine lv_iconst (v := 1) (pc := 8) C.1 C.2.1 dX7_mostWithin_8 (by decide) ?_
        refine lv_iadd (pc := 9) C.1 C.2.1 dX7_mostWithin_9 ?_
        refine lv_iload_n (pc := 10) C.1 C.2.1 dX7_mostWithin_10 rfl (lv_at hl 2 rfl) ?_
        refine lv_imul (pc := 11) C.1 C.2.1 dX7_mostWithin_11 ?_
        refine lv_iload_n (pc := 12) C.1 C.2.1 dX7_mostWithin_12 rfl (lv_at hl 0 rfl) ?_
        refine lv_icmp_gt (tgt := 22) (pc := 13) C.1 C.2.1 dX7_mostWithin_13 (by decide) (fun c5 => ?_) (fun c5 => ?_)
        · have hw := hw.1 c5
          refine lv_iload_n (pc := 22) C.1 C.2.1 dX7_mostWithin_22 rfl (lv_at hl 3 rfl) ?_
          exact rt_i (pc := 23) C hr hlk h hw dX7_mostWithin_23
        · have hw := hw.2 c5
          obtain ⟨x6, ex6⟩ : ∃ y : Int32, y = v1 + (1) := ⟨_, rfl⟩
          have hw := hw x6 ex6
          refine lv_iinc (v := x6) (lv' := [(3, .int x6), (0, .int b1), (1, .int b2), (2, .int b3)]) (pc := 16) C.1 C.2.1 dX7_mostWithin_16 hl (k := 3) rfl (by rw [ex6]; rfl) (by decide) rfl (fun ls hl => ?_)
          refine lv_goto (tgt := 2) (pc := 19) C.1 C.2.1 dX7_mostWithin_19 (by decide) ?_
          exact hw _ _ _ h (lv_sub hl [1, 2, 3, 0] rfl))
  refine lv_istore_n (lv' := [(3, .int ((0 : Int32))), (0, .int b1), (1, .int b2), (2, .int b3)]) (pc := 1) C.1 C.2.1 dX7_mostWithin_1 rfl hl (by decide) rfl (fun ls hl => ?_)
  exact hw _ _ _ h (lv_sub hl [1, 2, 3, 0] rfl)

def wp_X7_mostOut (b1 : Int32) (b2 : Int32) (z : St) (P : Int32 → St → Prop) : Prop :=
  (vp_in b1 6 ∧ (wp_X0_draws (gF z 40 b1.toNatClampNeg) b2 z (fun r2 z1 => (vp_in b1 6 ∧ (vp_in b1 6 ∧ (wp_X7_mostWithin r2 (gF z1 44 b1.toNatClampNeg) (gF z1 46 b1.toNatClampNeg) z1 (fun r4 z3 => P r4 z3)))))))
set_option maxHeartbeats 4000000 in
set_option maxRecDepth 100000 in
theorem m_X7_mostOut (l : Launch) (D : va_G) (t : Ty3) (a : Nat → Nat) (b1 : Int32) (b2 : Int32) (z : St) (P : Int32 → St → Prop) (hw : wp_X7_mostOut b1 b2 z P) : CtI l D t yX7_mostOut cX7_mostOut 3 (some .int) 1 (wX t a) (wX t a z) [.ref (a 39), .int b1, .int b2] P := by
  refine ctI_of (by decide) (Nat.le_of_ble_eq_true rfl) ?_
  intro p e s m args below meth c A ls C hr hlk h hl
  have hl : lv_has ls 3 [(0, .ref (a 39)), (1, .int b1), (2, .int b2)] := hl
  unfold wp_X7_mostOut at hw
  refine lv_aload_n (pc := 0) C.1 C.2.1 dX7_mostOut_0 rfl (lv_at hl 0 rfl) ?_
  refine GX_X7_53_39 (pc := 1) C h dX7_mostOut_1 ?_
  refine lv_aload_n (pc := 4) C.1 C.2.1 dX7_mostOut_4 rfl (lv_at hl 0 rfl) ?_
  refine GX_X7_9_39 (pc := 5) C h dX7_mostOut_5 ?_
  refine lv_iload_n (pc := 8) C.1 C.2.1 dX7_mostOut_8 rfl (lv_at hl 1 rfl) ?_
  refine ldX_40 (pc := 9) C h hw.1 dX7_mostOut_9 ?_
  have hw := hw.2
  refine lv_iload_n (pc := 10) C.1 C.2.1 dX7_mostOut_10 rfl (lv_at hl 2 rfl) ?_
  refine cl_vi (pc := 11) (As := [.int (gF z 40 b1.toNatClampNeg), .int b2]) (rest := []) C h (m_X0_draws l D t a (gF z 40 b1.toNatClampNeg) b2 z _ hw) mw_X0_draws lm_X7_105 md_X0_draws rcX_7 ⟨by decide, by decide⟩ ⟨Nat.zero_le _, Nat.zero_le _⟩ hl.1 rfl (Nat.le_of_ble_eq_true rfl) dX7_mostOut_11 (fun r2 z1 H locs hw h => ?_)
  refine lv_aload_n (pc := 14) C.1 C.2.1 dX7_mostOut_14 rfl (lv_at hl 0 rfl) ?_
  refine GX_X7_24_39 (pc := 15) C h dX7_mostOut_15 ?_
  refine lv_iload_n (pc := 18) C.1 C.2.1 dX7_mostOut_18 rfl (lv_at hl 1 rfl) ?_
  refine ldX_44 (pc := 19) C h hw.1 dX7_mostOut_19 ?_
  have hw := hw.2
  refine lv_aload_n (pc := 20) C.1 C.2.1 dX7_mostOut_20 rfl (lv_at hl 0 rfl) ?_
  refine GX_X7_30_39 (pc := 21) C h dX7_mostOut_21 ?_
  refine lv_iload_n (pc := 24) C.1 C.2.1 dX7_mostOut_24 rfl (lv_at hl 1 rfl) ?_
  refine ldX_46 (pc := 25) C h hw.1 dX7_mostOut_25 ?_
  have hw := hw.2
  refine cl_si (pc := 26) (As := [.int r2, .int (gF z1 44 b1.toNatClampNeg), .int (gF z1 46 b1.toNatClampNeg)]) (rest := []) C h (m_X7_mostWithin l D t a r2 (gF z1 44 b1.toNatClampNeg) (gF z1 46 b1.toNatClampNeg) z1 _ hw) mw_X7_mostWithin lm_X7_108 md_X7_mostWithin ⟨by decide, by decide⟩ ⟨Nat.zero_le _, Nat.zero_le _⟩ hl.1 rfl (Nat.le_of_ble_eq_true rfl) dX7_mostOut_26 (fun r4 z3 H locs hw h => ?_)
  exact rt_i (pc := 29) C hr hlk h hw dX7_mostOut_29

def wp_X7_mostIn (b1 : Int32) (b2 : Int32) (z : St) (P : Int32 → St → Prop) : Prop :=
  (vp_in b1 6 ∧ (vp_in (gF z 40 b1.toNatClampNeg) 4 ∧ (vp_in b1 6 ∧ (wp_X0_draws (gF z 40 b1.toNatClampNeg) b2 z (fun r2 z1 => (∀ x3 : Int32, x3 = (gF z 8 (gF z 40 b1.toNatClampNeg).toNatClampNeg) - r2 → (vp_in b1 6 ∧ (vp_in b1 6 ∧ (wp_X7_mostWithin x3 (gF z1 43 b1.toNatClampNeg) (gF z1 46 b1.toNatClampNeg) z1 (fun r5 z4 => P r5 z4))))))))))
set_option maxHeartbeats 4000000 in
set_option maxRecDepth 100000 in
theorem m_X7_mostIn (l : Launch) (D : va_G) (t : Ty3) (a : Nat → Nat) (b1 : Int32) (b2 : Int32) (z : St) (P : Int32 → St → Prop) (hw : wp_X7_mostIn b1 b2 z P) : CtI l D t yX7_mostIn cX7_mostIn 4 (some .int) 1 (wX t a) (wX t a z) [.ref (a 39), .int b1, .int b2] P := by
  refine ctI_of (by decide) (Nat.le_of_ble_eq_true rfl) ?_
  intro p e s m args below meth c A ls C hr hlk h hl
  have hl : lv_has ls 4 [(0, .ref (a 39)), (1, .int b1), (2, .int b2)] := hl
  unfold wp_X7_mostIn at hw
  refine lv_aload_n (pc := 0) C.1 C.2.1 dX7_mostIn_0 rfl (lv_at hl 0 rfl) ?_
  refine GX_X7_53_39 (pc := 1) C h dX7_mostIn_1 ?_
  refine GX_X7_100_7 (pc := 4) C h dX7_mostIn_4 ?_
  refine lv_aload_n (pc := 7) C.1 C.2.1 dX7_mostIn_7 rfl (lv_at hl 0 rfl) ?_
  refine GX_X7_9_39 (pc := 8) C h dX7_mostIn_8 ?_
  refine lv_iload_n (pc := 11) C.1 C.2.1 dX7_mostIn_11 rfl (lv_at hl 1 rfl) ?_
  refine ldX_40 (pc := 12) C h hw.1 dX7_mostIn_12 ?_
  have hw := hw.2
  refine ldX_8 (pc := 13) C h hw.1 dX7_mostIn_13 ?_
  have hw := hw.2
  refine lv_aload_n (pc := 14) C.1 C.2.1 dX7_mostIn_14 rfl (lv_at hl 0 rfl) ?_
  refine GX_X7_53_39 (pc := 15) C h dX7_mostIn_15 ?_
  refine lv_aload_n (pc := 18) C.1 C.2.1 dX7_mostIn_18 rfl (lv_at hl 0 rfl) ?_
  refine GX_X7_9_39 (pc := 19) C h dX7_mostIn_19 ?_
  refine lv_iload_n (pc := 22) C.1 C.2.1 dX7_mostIn_22 rfl (lv_at hl 1 rfl) ?_
  refine ldX_40 (pc := 23) C h hw.1 dX7_mostIn_23 ?_
  have hw := hw.2
  refine lv_iload_n (pc := 24) C.1 C.2.1 dX7_mostIn_24 rfl (lv_at hl 2 rfl) ?_
  refine cl_vi (pc := 25) (As := [.int (gF z 40 b1.toNatClampNeg), .int b2]) (rest := [.int (gF z 8 (gF z 40 b1.toNatClampNeg).toNatClampNeg)]) C h (m_X0_draws l D t a (gF z 40 b1.toNatClampNeg) b2 z _ hw) mw_X0_draws lm_X7_105 md_X0_draws rcX_7 ⟨by decide, by decide⟩ ⟨Nat.zero_le _, Nat.zero_le _⟩ hl.1 rfl (Nat.le_of_ble_eq_true rfl) dX7_mostIn_25 (fun r2 z1 H locs hw h => ?_)
  refine lv_isub (pc := 28) C.1 C.2.1 dX7_mostIn_28 ?_
  refine lv_topi (fun x3 ex3 => ?_)
  have hw := hw x3 ex3
  refine lv_istore_n (lv' := [(3, .int x3), (0, .ref (a 39)), (1, .int b1), (2, .int b2)]) (pc := 29) C.1 C.2.1 dX7_mostIn_29 rfl hl (by decide) rfl (fun ls hl => ?_)
  refine lv_iload_n (pc := 30) C.1 C.2.1 dX7_mostIn_30 rfl (lv_at hl 0 rfl) ?_
  refine lv_aload_n (pc := 31) C.1 C.2.1 dX7_mostIn_31 rfl (lv_at hl 1 rfl) ?_
  refine GX_X7_21_39 (pc := 32) C h dX7_mostIn_32 ?_
  refine lv_iload_n (pc := 35) C.1 C.2.1 dX7_mostIn_35 rfl (lv_at hl 2 rfl) ?_
  refine ldX_43 (pc := 36) C h hw.1 dX7_mostIn_36 ?_
  have hw := hw.2
  refine lv_aload_n (pc := 37) C.1 C.2.1 dX7_mostIn_37 rfl (lv_at hl 1 rfl) ?_
  refine GX_X7_30_39 (pc := 38) C h dX7_mostIn_38 ?_
  refine lv_iload_n (pc := 41) C.1 C.2.1 dX7_mostIn_41 rfl (lv_at hl 2 rfl) ?_
  refine ldX_46 (pc := 42) C h hw.1 dX7_mostIn_42 ?_
  have hw := hw.2
  refine cl_si (pc := 43) (As := [.int x3, .int (gF z1 43 b1.toNatClampNeg), .int (gF z1 46 b1.toNatClampNeg)]) (rest := []) C h (m_X7_mostWithin l D t a x3 (gF z1 43 b1.toNatClampNeg) (gF z1 46 b1.toNatClampNeg) z1 _ hw) mw_X7_mostWithin lm_X7_108 md_X7_mostWithin ⟨by decide, by decide⟩ ⟨Nat.zero_le _, Nat.zero_le _⟩ hl.1 rfl (Nat.le_of_ble_eq_true rfl) dX7_mostIn_43 (fun r5 z4 H locs hw h => ?_)
  exact rt_i (pc := 46) C hr hlk h hw dX7_mostIn_46

def wp_X7_choose (b1 : Int32) (b2 : Int32) (b3 : Int32) (z : St) (P : St → Prop) : Prop :=
  (wp_X7_mostOut b1 b2 z (fun r2 z1 => (∀ x3 : Int32, x3 = -r2 → (wp_X7_mostIn b1 b2 z1 (fun r5 z4 => (vp_in b1 6 ∧ (vp_in b2 168 ∧ (∀ x6 : Int32, x6 = (gF z4 46 b1.toNatClampNeg) * (gF z4 5 b2.toNatClampNeg) → (∀ K11 : Int32 → Int32 → Int32 → Int32 → St → Prop, (∀ (v7 : Int32) (v8 : Int32) (v9 : Int32) (v10 : Int32) (z12 : St), (vp_in b1 6 ∧ ((((gF z12 41 b1.toNatClampNeg) < v10) → P z12) ∧ (¬ ((gF z12 41 b1.toNatClampNeg) < v10) → (∀ x14 : Int32, x14 = (if v7 < -v10 then -v10 else v7) → (vp_in b1 6 ∧ (∀ x15 : Int32, x15 = (if (gF z12 41 b1.toNatClampNeg) - v10 < v8 then (gF z12 41 b1.toNatClampNeg) - v10 else v8) → (vp_in v10 41 ∧ (∀ z16 : St, z16 = wL z12 47 (vp_updL (gG z12 47) v10.toNatClampNeg ((1000000000000000000 : Int64))) → (vp_in (b3 + v10) 1968 ∧ (∀ z17 : St, z17 = wR z16 49 (upd (gF z16 49) (b3 + v10).toNatClampNeg ((0 : Int32))) → (∀ K24 : Int32 → Int32 → Int32 → Int32 → Int32 → Int32 → St → Prop, (∀ (v18 : Int32) (v19 : Int32) (v20 : Int32) (v21 : Int32) (v22 : Int32) (v23 : Int32) (z25 : St), (((v22 < v23) → (∀ x27 : Int32, x27 = v21 + (1) → K11 v18 v19 v20 x27 z25)) ∧ (¬ (v22 < v23) → (vp_in b1 6 ∧ (vp_in ((if (0 : Int32) < (v21 + v23) - (gF z25 45 b1.toNatClampNeg) then (v21 + v23) - (gF z25 45 b1.toNatClampNeg) else (0 : Int32))) 41 ∧ (∀ x28 : Int64, x28 = gG z25 48 ((if (0 : Int32) < (v21 + v23) - (gF z25 45 b1.toNatClampNeg) then (v21 + v23) - (gF z25 45 b1.toNatClampNeg) else (0 : Int32))).toNatClampNeg → (∀ K35 : Int32 → Int32 → Int32 → Int32 → Int32 → Int32 → St → Prop, (∀ (v29 : Int32) (v30 : Int32) (v31 : Int32) (v32 : Int32) (v33 : Int32) (v34 : Int32) (z36 : St), (∀ x37 : Int32, x37 = v34 + (1) → K24 v29 v30 v31 v32 v33 x37 z36) → K35 v29 v30 v31 v32 v33 v34 z36) → ((((lg_cmp x28 ((1000000000000000000 : Int64))) = 0) → K35 v18 v19 v20 v21 v22 v23 z25) ∧ (¬ ((lg_cmp x28 ((1000000000000000000 : Int64))) = 0) → (vp_in v21 41 ∧ (((0 ≤ (lg_cmp (x28 + ((Int32.toInt64 v23) * (Int32.toInt64 v20))) (gG z25 47 v21.toNatClampNeg))) → K35 v18 v19 v20 v21 v22 v23 z25) ∧ (¬ (0 ≤ (lg_cmp (x28 + ((Int32.toInt64 v23) * (Int32.toInt64 v20))) (gG z25 47 v21.toNatClampNeg))) → (vp_in v21 41 ∧ (∀ z40 : St, z40 = wL z25 47 (vp_updL (gG z25 47) v21.toNatClampNeg (x28 + ((Int32.toInt64 v23) * (Int32.toInt64 v20)))) → (vp_in (b3 + v21) 1968 ∧ (∀ z41 : St, z41 = wR z40 49 (upd (gF z40 49) (b3 + v21).toNatClampNeg v23) → K35 v18 v19 v20 v21 v22 v23 z41))))))))))))))) → K24 v18 v19 v20 v21 v22 v23 z25) → K24 v7 v8 v9 v10 x15 x14 z17))))))))))) → K11 v7 v8 v9 v10 z12) → K11 x3 r5 x6 ((0 : Int32)) z4)))))))))
set_option maxHeartbeats 4000000 in
set_option maxRecDepth 100000 in
theorem m_X7_choose (l : Launch) (D : va_G) (t : Ty3) (a : Nat → Nat) (b1 : Int32) (b2 : Int32) (b3 : Int32) (z : St) (P : St → Prop) (hw : wp_X7_choose b1 b2 b3 z P) : CtV l D t yX7_choose cX7_choose 13 none 2 (wX t a) (wX t a z) [.ref (a 39), .int b1, .int b2, .int b3] P := by
  refine ctV_of (by decide) (Nat.le_of_ble_eq_true rfl) ?_
  intro p e s m args below meth c A ls C hr hlk h hl
  have hl : lv_has ls 13 [(0, .ref (a 39)), (1, .int b1), (2, .int b2), (3, .int b3)] := hl
  unfold wp_X7_choose at hw
  refine lv_aload_n (pc := 0) C.1 C.2.1 dX7_choose_0 rfl (lv_at hl 0 rfl) ?_
  refine lv_iload_n (pc := 1) C.1 C.2.1 dX7_choose_1 rfl (lv_at hl 1 rfl) ?_
  refine lv_iload_n (pc := 2) C.1 C.2.1 dX7_choose_2 rfl (lv_at hl 2 rfl) ?_
  refine cl_vi (pc := 3) (As := [.int b1, .int b2]) (rest := []) C h (m_X7_mostOut l D t a b1 b2 z _ hw) mw_X7_mostOut lm_X7_80 md_X7_mostOut rcX_39 ⟨by decide, by decide⟩ ⟨Nat.zero_le _, Nat.zero_le _⟩ hl.1 rfl (Nat.le_of_ble_eq_true rfl) dX7_choose_3 (fun r2 z1 H locs hw h => ?_)
  refine lv_ineg (pc := 6) C.1 C.2.1 dX7_choose_6 ?_
  refine lv_topi (fun x3 ex3 => ?_)
  have hw := hw x3 ex3
  refine lv_istore (lv' := [(4, .int x3), (0, .ref (a 39)), (1, .int b1), (2, .int b2), (3, .int b3)]) (pc := 7) C.1 C.2.1 dX7_choose_7 hl (by decide) rfl (fun ls hl => ?_)
  refine lv_aload_n (pc := 9) C.1 C.2.1 dX7_choose_9 rfl (lv_at hl 1 rfl) ?_
  refine lv_iload_n (pc := 10) C.1 C.2.1 dX7_choose_10 rfl (lv_at hl 2 rfl) ?_
  refine lv_iload_n (pc := 11) C.1 C.2.1 dX7_choose_11 rfl (lv_at hl 3 rfl) ?_
  refine cl_vi (pc := 12) (As := [.int b1, .int b2]) (rest := []) C h (m_X7_mostIn l D t a b1 b2 z1 _ hw) mw_X7_mostIn lm_X7_84 md_X7_mostIn rcX_39 ⟨by decide, by decide⟩ ⟨Nat.zero_le _, Nat.zero_le _⟩ hl.1 rfl (Nat.le_of_ble_eq_true rfl) dX7_choose_12 (fun r5 z4 H locs hw h => ?_)
  refine lv_istore (lv' := [(5, .int r5), (4, .int x3), (0, .ref (a 39)), (1, .int b1), (2, .int b2), (3, .int b3)]) (pc := 15) C.1 C.2.1 dX7_choose_15 hl (by decide) rfl (fun ls hl => ?_)
  refine lv_aload_n (pc := 17) C.1 C.2.1 dX7_choose_17 rfl (lv_at hl 2 rfl) ?_
  refine GX_X7_30_39 (pc := 18) C h dX7_choose_18 ?_
  refine lv_iload_n (pc := 21) C.1 C.2.1 dX7_choose_21 rfl (lv_at hl 3 rfl) ?_
  refine ldX_46 (pc := 22) C h hw.1 dX7_choose_22 ?_
  have hw := hw.2
  refine lv_aload_n (pc := 23) C.1 C.2.1 dX7_choose_23 rfl (lv_at hl 2 rfl) ?_
  refine GX_X7_49_39 (pc := 24) C h dX7_choose_24 ?_
  refine GX_X7_87_1 (pc := 27) C h dX7_choose_27 ?_
  refine lv_iload_n (pc := 30) C.1 C.2.1 dX7_choose_30 rfl (lv_at hl 4 rfl) ?_
  refine ldX_5 (pc := 31) C h hw.1 dX7_choose_31 ?_
  have hw := hw.2
  refine lv_imul (pc := 32) C.1 C.2.1 dX7_choose_32 ?_
  refine lv_topi (fun x6 ex6 => ?_)
  have hw := hw x6 ex6
  refine lv_istore (lv' := [(6, .int x6), (5, .int r5), (4, .int x3), (0, .ref (a 39)), (1, .int b1), (2, .int b2), (3, .int b3)]) (pc := 33) C.1 C.2.1 dX7_choose_33 hl (by decide) rfl (fun ls hl => ?_)
  refine lv_iconst (v := 0) (pc := 35) C.1 C.2.1 dX7_choose_35 (by decide) ?_
  have hw := hw (fun (v7 : Int32) (v8 : Int32) (v9 : Int32) (v10 : Int32) (z12 : St) => ∀ (H : Heap) (locs : List Loc) (ls : Array Slot), wd D t A s (wX t a z12) H locs → lv_has ls 13 [(0, .ref (a 39)), (1, .int b1), (3, .int b3), (4, .int v7), (5, .int v8), (6, .int v9), (7, .int v10)] → W p l e (rmd 2) s m args below meth c H locs 0 0 (QV D t A (wX t a) P below args s) (F0 m 38 ls [])) (by
      intro v7 v8 v9 v10 z12 hw H locs ls h hl
      refine lv_iload (pc := 38) C.1 C.2.1 dX7_choose_38 (lv_at hl 6 rfl) ?_
      refine lv_aload_n (pc := 40) C.1 C.2.1 dX7_choose_40 rfl (lv_at hl 0 rfl) ?_
      refine GX_X7_15_39 (pc := 41) C h dX7_choose_41 ?_
      refine lv_iload_n (pc := 44) C.1 C.2.1 dX7_choose_44 rfl (lv_at hl 1 rfl) ?_
      refine ldX_41 (pc := 45) C h hw.1 dX7_choose_45 ?_
      have hw := hw.2
      refine lv_icmp_gt (tgt := 199) (pc := 46) C.1 C.2.1 dX7_choose_46 (by decide) (fun c13 => ?_) (fun c13 => ?_)
      · have hw := hw.1 c13
        exact rt_v (pc := 199) C hr hlk h hw dX7_choose_199
      · have hw := hw.2 c13
        refine lv_iload (pc := 49) C.1 C.2.1 dX7_choose_49 (lv_at hl 3 rfl) ?_
        refine lv_iload (pc := 51) C.1 C.2.1 dX7_choose_51 (lv_at hl 6 rfl) ?_
        refine lv_ineg (pc := 53) C.1 C.2.1 dX7_choose_53 ?_
        refine r_max (pc := 54) C lm_X7_92 m1_max m2_max m3_max ⟨by decide, by decide⟩ ⟨Nat.zero_le _, Nat.zero_le _⟩ hl.1 (Nat.le_of_ble_eq_true rfl) dX7_choose_54 ?_
        refine lv_topi (fun x14 ex14 => ?_)
        have hw := hw x14 ex14
        refine lv_istore (lv' := [(8, .int x14), (0, .ref (a 39)), (1, .int b1), (3, .int b3), (4, .int v7), (5, .int v8), (6, .int v9), (7, .int v10)]) (pc := 57) C.1 C.2.1 dX7_choose_57 hl (by decide) rfl (fun ls hl => ?_)
        refine lv_iload (pc := 59) C.1 C.2.1 dX7_choose_59 (lv_at hl 5 rfl) ?_
        refine lv_aload_n (pc := 61) C.1 C.2.1 dX7_choose_61 rfl (lv_at hl 1 rfl) ?_
        refine GX_X7_15_39 (pc := 62) C h dX7_choose_62 ?_
        refine lv_iload_n (pc := 65) C.1 C.2.1 dX7_choose_65 rfl (lv_at hl 2 rfl) ?_
        refine ldX_41 (pc := 66) C h hw.1 dX7_choose_66 ?_
        have hw := hw.2
        refine lv_iload (pc := 67) C.1 C.2.1 dX7_choose_67 (lv_at hl 7 rfl) ?_
        refine lv_isub (pc := 69) C.1 C.2.1 dX7_choose_69 ?_
        refine r_min (pc := 70) C lm_X7_97 m1_min m2_min m3_min ⟨by decide, by decide⟩ ⟨Nat.zero_le _, Nat.zero_le _⟩ hl.1 (Nat.le_of_ble_eq_true rfl) dX7_choose_70 ?_
        refine lv_topi (fun x15 ex15 => ?_)
        have hw := hw x15 ex15
        refine lv_istore (lv' := [(9, .int x15), (8, .int x14), (0, .ref (a 39)), (1, .int b1), (3, .int b3), (4, .int v7), (5, .int v8), (6, .int v9), (7, .int v10)]) (pc := 73) C.1 C.2.1 dX7_choose_73 hl (by decide) rfl (fun ls hl => ?_)
        refine lv_aload_n (pc := 75) C.1 C.2.1 dX7_choose_75 rfl (lv_at hl 2 rfl) ?_
        refine GX_X7_33_39 (pc := 76) C h dX7_choose_76 ?_
        refine lv_iload (pc := 79) C.1 C.2.1 dX7_choose_79 (lv_at hl 8 rfl) ?_
        refine lv_ldc2 (pc := 81) C.1 C.2.1 C.2.2.2.1 (C.2.2.2.2 _ lc_X7_68) dX7_choose_81 ?_
        refine stX_47 (pc := 84) C h hw.1 dX7_choose_84 (fun z16 ez16 H locs h => ?_)
        have hw := hw.2 z16 ez16
        refine lv_aload_n (pc := 85) C.1 C.2.1 dX7_choose_85 rfl (lv_at hl 2 rfl) ?_
        refine GX_X7_40_39 (pc := 86) C h dX7_choose_86 ?_
        refine lv_iload_n (pc := 89) C.1 C.2.1 dX7_choose_89 rfl (lv_at hl 4 rfl) ?_
        refine lv_iload (pc := 90) C.1 C.2.1 dX7_choose_90 (lv_at hl 8 rfl) ?_
        refine lv_iadd (pc := 92) C.1 C.2.1 dX7_choose_92 ?_
        refine lv_iconst (v := 0) (pc := 93) C.1 C.2.1 dX7_choose_93 (by decide) ?_
        refine stX_49 (pc := 94) C h hw.1 dX7_choose_94 (fun z17 ez17 H locs h => ?_)
        have hw := hw.2 z17 ez17
        refine lv_iload (pc := 95) C.1 C.2.1 dX7_choose_95 (lv_at hl 1 rfl) ?_
        have hw := hw (fun (v18 : Int32) (v19 : Int32) (v20 : Int32) (v21 : Int32) (v22 : Int32) (v23 : Int32) (z25 : St) => ∀ (H : Heap) (locs : List Loc) (ls : Array Slot), wd D t A s (wX t a z25) H locs → lv_has ls 13 [(0, .ref (a 39)), (1, .int b1), (3, .int b3), (4, .int v18), (5, .int v19), (6, .int v20), (7, .int v21), (9, .int v22), (10, .int v23)] → W p l e (rmd 2) s m args below meth c H locs 0 0 (QV D t A (wX t a) P below args s) (F0 m 99 ls [])) (by
            intro v18 v19 v20 v21 v22 v23 z25 hw H locs ls h hl
            refine lv_iload (pc := 99) C.1 C.2.1 dX7_choose_99 (lv_at hl 8 rfl) ?_
            refine lv_iload (pc := 101) C.1 C.2.1 dX7_choose_101 (lv_at hl 7 rfl) ?_
            refine lv_icmp_gt (tgt := 193) (pc := 103) C.1 C.2.1 dX7_choose_103 (by decide) (fun c26 => ?_) (fun c26 => ?_)
            · have hw := hw.1 c26
              obtain ⟨x27, ex27⟩ : ∃ y : Int32, y = v21 + (1) := ⟨_, rfl⟩
              have hw := hw x27 ex27
              refine lv_iinc (v := x27) (lv' := [(7, .int x27), (0, .ref (a 39)), (1, .int b1), (3, .int b3), (4, .int v18), (5, .int v19), (6, .int v20), (9, .int v22), (10, .int v23)]) (pc := 193) C.1 C.2.1 dX7_choose_193 hl (k := 6) rfl (by rw [ex27]; rfl) (by decide) rfl (fun ls hl => ?_)
              refine lv_goto (tgt := 38) (pc := 196) C.1 C.2.1 dX7_choose_196 (by decide) ?_
              exact hw _ _ _ h (lv_sub hl [1, 2, 3, 4, 5, 6, 0] rfl)
            · have hw := hw.2 c26
              refine lv_aload_n (pc := 106) C.1 C.2.1 dX7_choose_106 rfl (lv_at hl 0 rfl) ?_
              refine GX_X7_37_39 (pc := 107) C h dX7_choose_107 ?_
              refine lv_iconst (v := 0) (pc := 110) C.1 C.2.1 dX7_choose_110 (by decide) ?_
              refine lv_iload (pc := 111) C.1 C.2.1 dX7_choose_111 (lv_at hl 6 rfl) ?_
              refine lv_iload (pc := 113) C.1 C.2.1 dX7_choose_113 (lv_at hl 8 rfl) ?_
              refine lv_iadd (pc := 115) C.1 C.2.1 dX7_choose_115 ?_
              refine lv_aload_n (pc := 116) C.1 C.2.1 dX7_choose_116 rfl (lv_at hl 0 rfl) ?_
              refine GX_X7_27_39 (pc := 117) C h dX7_choose_117 ?_
              refine lv_iload_n (pc := 120) C.1 C.2.1 dX7_choose_120 rfl (lv_at hl 1 rfl) ?_
              refine ldX_45 (pc := 121) C h hw.1 dX7_choose_121 ?_
              have hw := hw.2
              refine lv_isub (pc := 122) C.1 C.2.1 dX7_choose_122 ?_
              refine r_max (pc := 123) C lm_X7_92 m1_max m2_max m3_max ⟨by decide, by decide⟩ ⟨Nat.zero_le _, Nat.zero_le _⟩ hl.1 (Nat.le_of_ble_eq_true rfl) dX7_choose_123 ?_
              refine ldX_48 (pc := 126) C h hw.1 dX7_choose_126 ?_
              have hw := hw.2
              refine lv_topl (fun x28 ex28 => ?_)
              have hw := hw x28 ex28
              refine lv_lstore (lv' := [(11, .long x28), (0, .ref (a 39)), (1, .int b1), (3, .int b3), (4, .int v18), (5, .int v19), (6, .int v20), (7, .int v21), (9, .int v22), (10, .int v23)]) (pc := 127) C.1 C.2.1 dX7_choose_127 hl (by decide) rfl (fun ls hl => ?_)
              refine lv_lload (pc := 129) C.1 C.2.1 dX7_choose_129 (lv_at hl 0 rfl) ?_
              refine lv_ldc2 (pc := 131) C.1 C.2.1 C.2.2.2.1 (C.2.2.2.2 _ lc_X7_68) dX7_choose_131 ?_
              refine W.lcmp (pc := 134) C.1 C.2.1 dX7_choose_134 ?_
              have hw := hw (fun (v29 : Int32) (v30 : Int32) (v31 : Int32) (v32 : Int32) (v33 : Int32) (v34 : Int32) (z36 : St) => ∀ (H : Heap) (locs : List Loc) (ls : Array Slot), wd D t A s (wX t a z36) H locs → lv_has ls 13 [(0, .ref (a 39)), (1, .int b1), (3, .int b3), (4, .int v29), (5, .int v30), (6, .int v31), (7, .int v32), (9, .int v33), (10, .int v34)] → W p l e (rmd 2) s m args below meth c H locs 0 0 (QV D t A (wX t a) P below args s) (F0 m 187 ls [])) (by
                  intro v29 v30 v31 v32 v33 v34 z36 hw H locs ls h hl
                  obtain ⟨x37, ex37⟩ : ∃ y : Int32, y = v34 + (1) := ⟨_, rfl⟩
                  have hw := hw x37 ex37
                  refine lv_iinc (v := x37) (lv' := [(10, .int x37), (0, .ref (a 39)), (1, .int b1), (3, .int b3), (4, .int v29), (5, .int v30), (6, .int v31), (7, .int v32), (9, .int v33)]) (pc := 187) C.1 C.2.1 dX7_choose_187 hl (k := 8) rfl (by rw [ex37]; rfl) (by decide) rfl (fun ls hl => ?_)
                  refine lv_goto (tgt := 99) (pc := 190) C.1 C.2.1 dX7_choose_190 (by decide) ?_
                  exact hw _ _ _ h (lv_sub hl [1, 2, 3, 4, 5, 6, 7, 8, 0] rfl))
              refine lv_if_eq (tgt := 187) (pc := 135) C.1 C.2.1 dX7_choose_135 (by decide) (fun c38 => ?_) (fun c38 => ?_)
              · have hw := hw.1 c38
                exact hw _ _ _ h (lv_sub hl [1, 2, 3, 4, 5, 6, 7, 8, 9] rfl)
              · have hw := hw.2 c38
                refine lv_lload (pc := 138) C.1 C.2.1 dX7_choose_138 (lv_at hl 0 rfl) ?_
                refine lv_iload (pc := 140) C.1 C.2.1 dX7_choose_140 (lv_at hl 9 rfl) ?_
                refine lv_i2l (pc := 142) C.1 C.2.1 dX7_choose_142 rfl ?_
                refine lv_iload (pc := 143) C.1 C.2.1 dX7_choose_143 (lv_at hl 6 rfl) ?_
                refine lv_i2l (pc := 145) C.1 C.2.1 dX7_choose_145 rfl ?_
                refine lv_lmul (pc := 146) C.1 C.2.1 dX7_choose_146 ?_
                refine lv_ladd (pc := 147) C.1 C.2.1 dX7_choose_147 ?_
                refine lv_aload_n (pc := 148) C.1 C.2.1 dX7_choose_148 rfl (lv_at hl 1 rfl) ?_
                refine GX_X7_33_39 (pc := 149) C h dX7_choose_149 ?_
                refine lv_iload (pc := 152) C.1 C.2.1 dX7_choose_152 (lv_at hl 7 rfl) ?_
                refine ldX_47 (pc := 154) C h hw.1 dX7_choose_154 ?_
                have hw := hw.2
                refine W.lcmp (pc := 155) C.1 C.2.1 dX7_choose_155 ?_
                refine lv_if_ge (tgt := 187) (pc := 156) C.1 C.2.1 dX7_choose_156 (by decide) (fun c39 => ?_) (fun c39 => ?_)
                · have hw := hw.1 c39
                  exact hw _ _ _ h (lv_sub hl [1, 2, 3, 4, 5, 6, 7, 8, 9] rfl)
                · have hw := hw.2 c39
                  refine lv_aload_n (pc := 159) C.1 C.2.1 dX7_choose_159 rfl (lv_at hl 1 rfl) ?_
                  refine GX_X7_33_39 (pc := 160) C h dX7_choose_160 ?_
                  refine lv_iload (pc := 163) C.1 C.2.1 dX7_choose_163 (lv_at hl 7 rfl) ?_
                  refine lv_lload (pc := 165) C.1 C.2.1 dX7_choose_165 (lv_at hl 0 rfl) ?_
                  refine lv_iload (pc := 167) C.1 C.2.1 dX7_choose_167 (lv_at hl 9 rfl) ?_
                  refine lv_i2l (pc := 169) C.1 C.2.1 dX7_choose_169 rfl ?_
                  refine lv_iload (pc := 170) C.1 C.2.1 dX7_choose_170 (lv_at hl 6 rfl) ?_
                  refine lv_i2l (pc := 172) C.1 C.2.1 dX7_choose_172 rfl ?_
                  refine lv_lmul (pc := 173) C.1 C.2.1 dX7_choose_173 ?_
                  refine lv_ladd (pc := 174) C.1 C.2.1 dX7_choose_174 ?_
                  refine stX_47 (pc := 175) C h hw.1 dX7_choose_175 (fun z40 ez40 H locs h => ?_)
                  have hw := hw.2 z40 ez40
                  refine lv_aload_n (pc := 176) C.1 C.2.1 dX7_choose_176 rfl (lv_at hl 1 rfl) ?_
                  refine GX_X7_40_39 (pc := 177) C h dX7_choose_177 ?_
                  refine lv_iload_n (pc := 180) C.1 C.2.1 dX7_choose_180 rfl (lv_at hl 3 rfl) ?_
                  refine lv_iload (pc := 181) C.1 C.2.1 dX7_choose_181 (lv_at hl 7 rfl) ?_
                  refine lv_iadd (pc := 183) C.1 C.2.1 dX7_choose_183 ?_
                  refine lv_iload (pc := 184) C.1 C.2.1 dX7_choose_184 (lv_at hl 9 rfl) ?_
                  refine stX_49 (pc := 186) C h hw.1 dX7_choose_186 (fun z41 ez41 H locs h => ?_)
                  have hw := hw.2 z41 ez41
                  exact hw _ _ _ h (lv_sub hl [1, 2, 3, 4, 5, 6, 7, 8, 9] rfl))
        refine lv_istore (lv' := [(10, .int x14), (9, .int x15), (8, .int x14), (0, .ref (a 39)), (1, .int b1), (3, .int b3), (4, .int v7), (5, .int v8), (6, .int v9), (7, .int v10)]) (pc := 97) C.1 C.2.1 dX7_choose_97 hl (by decide) rfl (fun ls hl => ?_)
        exact hw _ _ _ h (lv_sub hl [3, 4, 5, 6, 7, 8, 9, 1, 0] rfl))
  refine lv_istore (lv' := [(7, .int ((0 : Int32))), (6, .int x6), (5, .int r5), (4, .int x3), (0, .ref (a 39)), (1, .int b1), (2, .int b2), (3, .int b3)]) (pc := 36) C.1 C.2.1 dX7_choose_36 hl (by decide) rfl (fun ls hl => ?_)
  exact hw _ _ _ h (lv_sub hl [4, 5, 7, 3, 2, 1, 0] rfl)

def wp_X7_cheapest (b1 : Int32) (b2 : Int32) (b3 : Int32) (b4 : Int32) (z : St) (P : Int64 → St → Prop) : Prop :=
  (∀ K2 : Int32 → St → Prop, (∀ (v1 : Int32) (z3 : St), (vp_in b1 6 ∧ ((((gF z3 41 b1.toNatClampNeg) < v1) → (∀ K6 : Int32 → St → Prop, (∀ (v5 : Int32) (z7 : St), (((v5 < 0) → (vp_in b1 6 ∧ (vp_in (gF z7 42 b1.toNatClampNeg) 41 ∧ P (gG z7 48 (gF z7 42 b1.toNatClampNeg).toNatClampNeg) z7))) ∧ (¬ (v5 < 0) → (wp_X7_choose b1 (b2 + v5) (v5 * ((41 : Int32))) z7 (fun z9 => ((¬ ((0 : Int32)) < 0 ∧ ¬ ((0 : Int32)) < 0 ∧ ¬ ((41 : Int32)) < 0 ∧ ((0 : Int32)).toNatClampNeg + ((41 : Int32)).toNatClampNeg ≤ 41 ∧ ((0 : Int32)).toNatClampNeg + ((41 : Int32)).toNatClampNeg ≤ 41) ∧ (∀ z11 : St, z11 = wL z9 48 (va_cpy (gG z9 47) (gG z9 48) ((0 : Int32)).toNatClampNeg ((0 : Int32)).toNatClampNeg ((41 : Int32)).toNatClampNeg) → (∀ x12 : Int32, x12 = v5 + (-1) → K6 x12 z11))))))) → K6 v5 z7) → (∀ x13 : Int32, x13 = b3 - ((1 : Int32)) → K6 x13 z3))) ∧ (¬ ((gF z3 41 b1.toNatClampNeg) < v1) → (∀ K17 : Int32 → Int64 → Int32 → St → Prop, (∀ (v14 : Int32) (s15 : Int64) (s16 : Int32) (z18 : St), (vp_in s16 41 ∧ (∀ z19 : St, z19 = wL z18 48 (vp_updL (gG z18 48) s16.toNatClampNeg s15) → (∀ x20 : Int32, x20 = v14 + (1) → K2 x20 z19))) → K17 v14 s15 s16 z18) → (((v1 < b4) → K17 v1 ((1000000000000000000 : Int64)) v1 z3) ∧ (¬ (v1 < b4) → K17 v1 ((0 : Int64)) v1 z3)))))) → K2 v1 z3) → K2 ((0 : Int32)) z)
set_option maxHeartbeats 4000000 in
set_option maxRecDepth 100000 in
theorem m_X7_cheapest (l : Launch) (D : va_G) (t : Ty3) (a : Nat → Nat) (b1 : Int32) (b2 : Int32) (b3 : Int32) (b4 : Int32) (z : St) (P : Int64 → St → Prop) (hw : wp_X7_cheapest b1 b2 b3 b4 z P) : CtL l D t yX7_cheapest cX7_cheapest 6 (some .long) 3 (wX t a) (wX t a z) [.ref (a 39), .int b1, .int b2, .int b3, .int b4] P := by
  refine ctL_of (by decide) (Nat.le_of_ble_eq_true rfl) ?_
  intro p e s m args below meth c A ls C hr hlk h hl
  have hl : lv_has ls 6 [(0, .ref (a 39)), (1, .int b1), (2, .int b2), (3, .int b3), (4, .int b4)] := hl
  unfold wp_X7_cheapest at hw
  refine lv_iconst (v := 0) (pc := 0) C.1 C.2.1 dX7_cheapest_0 (by decide) ?_
  have hw := hw (fun (v1 : Int32) (z3 : St) => ∀ (H : Heap) (locs : List Loc) (ls : Array Slot), wd D t A s (wX t a z3) H locs → lv_has ls 6 [(0, .ref (a 39)), (1, .int b1), (2, .int b2), (3, .int b3), (4, .int b4), (5, .int v1)] → W p l e (rmd 3) s m args below meth c H locs 0 0 (QL D t A (wX t a) P below args s) (F0 m 3 ls [])) (by
      intro v1 z3 hw H locs ls h hl
      refine lv_iload (pc := 3) C.1 C.2.1 dX7_cheapest_3 (lv_at hl 5 rfl) ?_
      refine lv_aload_n (pc := 5) C.1 C.2.1 dX7_cheapest_5 rfl (lv_at hl 0 rfl) ?_
      refine GX_X7_15_39 (pc := 6) C h dX7_cheapest_6 ?_
      refine lv_iload_n (pc := 9) C.1 C.2.1 dX7_cheapest_9 rfl (lv_at hl 1 rfl) ?_
      refine ldX_41 (pc := 10) C h hw.1 dX7_cheapest_10 ?_
      have hw := hw.2
      refine lv_icmp_gt (tgt := 41) (pc := 11) C.1 C.2.1 dX7_cheapest_11 (by decide) (fun c4 => ?_) (fun c4 => ?_)
      · have hw := hw.1 c4
        refine lv_iload_n (pc := 41) C.1 C.2.1 dX7_cheapest_41 rfl (lv_at hl 3 rfl) ?_
        refine lv_iconst (v := 1) (pc := 42) C.1 C.2.1 dX7_cheapest_42 (by decide) ?_
        refine lv_isub (pc := 43) C.1 C.2.1 dX7_cheapest_43 ?_
        have hw := hw (fun (v5 : Int32) (z7 : St) => ∀ (H : Heap) (locs : List Loc) (ls : Array Slot), wd D t A s (wX t a z7) H locs → lv_has ls 6 [(0, .ref (a 39)), (1, .int b1), (2, .int b2), (5, .int v5)] → W p l e (rmd 3) s m args below meth c H locs 0 0 (QL D t A (wX t a) P below args s) (F0 m 46 ls [])) (by
            intro v5 z7 hw H locs ls h hl
            refine lv_iload (pc := 46) C.1 C.2.1 dX7_cheapest_46 (lv_at hl 3 rfl) ?_
            refine lv_if_lt (tgt := 86) (pc := 48) C.1 C.2.1 dX7_cheapest_48 (by decide) (fun c8 => ?_) (fun c8 => ?_)
            · have hw := hw.1 c8
              refine lv_aload_n (pc := 86) C.1 C.2.1 dX7_cheapest_86 rfl (lv_at hl 0 rfl) ?_
              refine GX_X7_37_39 (pc := 87) C h dX7_cheapest_87 ?_
              refine lv_aload_n (pc := 90) C.1 C.2.1 dX7_cheapest_90 rfl (lv_at hl 0 rfl) ?_
              refine GX_X7_18_39 (pc := 91) C h dX7_cheapest_91 ?_
              refine lv_iload_n (pc := 94) C.1 C.2.1 dX7_cheapest_94 rfl (lv_at hl 1 rfl) ?_
              refine ldX_42 (pc := 95) C h hw.1 dX7_cheapest_95 ?_
              have hw := hw.2
              refine ldX_48 (pc := 96) C h hw.1 dX7_cheapest_96 ?_
              have hw := hw.2
              exact rt_l (pc := 97) C hr hlk h hw dX7_cheapest_97
            · have hw := hw.2 c8
              refine lv_aload_n (pc := 51) C.1 C.2.1 dX7_cheapest_51 rfl (lv_at hl 0 rfl) ?_
              refine lv_iload_n (pc := 52) C.1 C.2.1 dX7_cheapest_52 rfl (lv_at hl 1 rfl) ?_
              refine lv_iload_n (pc := 53) C.1 C.2.1 dX7_cheapest_53 rfl (lv_at hl 2 rfl) ?_
              refine lv_iload (pc := 54) C.1 C.2.1 dX7_cheapest_54 (lv_at hl 3 rfl) ?_
              refine lv_iadd (pc := 56) C.1 C.2.1 dX7_cheapest_56 ?_
              refine lv_iload (pc := 57) C.1 C.2.1 dX7_cheapest_57 (lv_at hl 3 rfl) ?_
              refine lv_bipush (v := 41) (pc := 59) C.1 C.2.1 dX7_cheapest_59 (by decide) ?_
              refine lv_imul (pc := 61) C.1 C.2.1 dX7_cheapest_61 ?_
              refine cl_vv (pc := 62) (As := [.int b1, .int (b2 + v5), .int (v5 * ((41 : Int32)))]) (rest := []) C h (m_X7_choose l D t a b1 (b2 + v5) (v5 * ((41 : Int32))) z7 _ hw) mw_X7_choose lm_X7_70 md_X7_choose rcX_39 ⟨by decide, by decide⟩ ⟨Nat.zero_le _, Nat.zero_le _⟩ hl.1 rfl (Nat.le_of_ble_eq_true rfl) dX7_cheapest_62 (fun z9 H locs hw h => ?_)
              refine lv_aload_n (pc := 65) C.1 C.2.1 dX7_cheapest_65 rfl (lv_at hl 0 rfl) ?_
              refine GX_X7_33_39 (pc := 66) C h dX7_cheapest_66 ?_
              refine lv_iconst (v := 0) (pc := 69) C.1 C.2.1 dX7_cheapest_69 (by decide) ?_
              refine lv_aload_n (pc := 70) C.1 C.2.1 dX7_cheapest_70 rfl (lv_at hl 0 rfl) ?_
              refine GX_X7_37_39 (pc := 71) C h dX7_cheapest_71 ?_
              refine lv_iconst (v := 0) (pc := 74) C.1 C.2.1 dX7_cheapest_74 (by decide) ?_
              refine lv_bipush (v := 41) (pc := 75) C.1 C.2.1 dX7_cheapest_75 (by decide) ?_
              refine cpX_47_48 (pc := 77) C lm_X7_74 h hw.1 ⟨by decide, by decide⟩ hl.1 (Nat.le_of_ble_eq_true rfl) dX7_cheapest_77 (fun z11 ez11 H locs h => ?_)
              have hw := hw.2 z11 ez11
              obtain ⟨x12, ex12⟩ : ∃ y : Int32, y = v5 + (-1) := ⟨_, rfl⟩
              have hw := hw x12 ex12
              refine lv_iinc (v := x12) (lv' := [(5, .int x12), (0, .ref (a 39)), (1, .int b1), (2, .int b2)]) (pc := 80) C.1 C.2.1 dX7_cheapest_80 hl (k := 3) rfl (by rw [ex12]; rfl) (by decide) rfl (fun ls hl => ?_)
              refine lv_goto (tgt := 46) (pc := 83) C.1 C.2.1 dX7_cheapest_83 (by decide) ?_
              exact hw _ _ _ h (lv_sub hl [1, 2, 3, 0] rfl))
        refine lv_topi (fun x13 ex13 => ?_)
        have hw := hw x13 ex13
        refine lv_istore (lv' := [(5, .int x13), (0, .ref (a 39)), (1, .int b1), (2, .int b2), (3, .int b3), (4, .int b4)]) (pc := 44) C.1 C.2.1 dX7_cheapest_44 hl (by decide) rfl (fun ls hl => ?_)
        exact hw _ _ _ h (lv_sub hl [1, 2, 3, 0] rfl)
      · have hw := hw.2 c4
        refine lv_aload_n (pc := 14) C.1 C.2.1 dX7_cheapest_14 rfl (lv_at hl 0 rfl) ?_
        refine GX_X7_37_39 (pc := 15) C h dX7_cheapest_15 ?_
        refine lv_iload (pc := 18) C.1 C.2.1 dX7_cheapest_18 (lv_at hl 5 rfl) ?_
        refine lv_iload (pc := 20) C.1 C.2.1 dX7_cheapest_20 (lv_at hl 5 rfl) ?_
        refine lv_iload (pc := 22) C.1 C.2.1 dX7_cheapest_22 (lv_at hl 4 rfl) ?_
        have hw := hw (fun (v14 : Int32) (s15 : Int64) (s16 : Int32) (z18 : St) => ∀ (H : Heap) (locs : List Loc) (ls : Array Slot), wd D t A s (wX t a z18) H locs → lv_has ls 6 [(0, .ref (a 39)), (1, .int b1), (2, .int b2), (3, .int b3), (4, .int b4), (5, .int v14)] → W p l e (rmd 3) s m args below meth c H locs 0 0 (QL D t A (wX t a) P below args s) (F0 m 34 ls [.long s15, .int s16, .ref (a 48)])) (by
            intro v14 s15 s16 z18 hw H locs ls h hl
            refine stX_48 (pc := 34) C h hw.1 dX7_cheapest_34 (fun z19 ez19 H locs h => ?_)
            have hw := hw.2 z19 ez19
            obtain ⟨x20, ex20⟩ : ∃ y : Int32, y = v14 + (1) := ⟨_, rfl⟩
            have hw := hw x20 ex20
            refine lv_iinc (v := x20) (lv' := [(5, .int x20), (0, .ref (a 39)), (1, .int b1), (2, .int b2), (3, .int b3), (4, .int b4)]) (pc := 35) C.1 C.2.1 dX7_cheapest_35 hl (k := 5) rfl (by rw [ex20]; rfl) (by decide) rfl (fun ls hl => ?_)
            refine lv_goto (tgt := 3) (pc := 38) C.1 C.2.1 dX7_cheapest_38 (by decide) ?_
            exact hw _ _ _ h (lv_sub hl [1, 2, 3, 4, 5, 0] rfl))
        refine lv_icmp_lt (tgt := 31) (pc := 24) C.1 C.2.1 dX7_cheapest_24 (by decide) (fun c21 => ?_) (fun c21 => ?_)
        · have hw := hw.1 c21
          refine lv_ldc2 (pc := 31) C.1 C.2.1 C.2.2.2.1 (C.2.2.2.2 _ lc_X7_68) dX7_cheapest_31 ?_
          exact hw _ _ _ h (lv_sub hl [0, 1, 2, 3, 4, 5] rfl)
        · have hw := hw.2 c21
          refine lv_lconst (v := 0) (pc := 27) C.1 C.2.1 dX7_cheapest_27 (by decide) ?_
          refine lv_goto (tgt := 34) (pc := 28) C.1 C.2.1 dX7_cheapest_28 (by decide) ?_
          exact hw _ _ _ h (lv_sub hl [0, 1, 2, 3, 4, 5] rfl))
  refine lv_istore (lv' := [(5, .int ((0 : Int32))), (0, .ref (a 39)), (1, .int b1), (2, .int b2), (3, .int b3), (4, .int b4)]) (pc := 1) C.1 C.2.1 dX7_cheapest_1 hl (by decide) rfl (fun ls hl => ?_)
  exact hw _ _ _ h (lv_sub hl [1, 2, 3, 4, 5, 0] rfl)

def wp_X7_keep (b1 : Int32) (b2 : Int32) (z : St) (P : St → Prop) : Prop :=
  (vp_in b1 6 ∧ (∀ x1 : Int32, x1 = gF z 42 b1.toNatClampNeg → (∀ K4 : Int32 → Int32 → St → Prop, (∀ (v2 : Int32) (v3 : Int32) (z5 : St), (((b2 ≤ v3) → (∀ z7 : St, z7 = wI z5 3915 b2 → P z7)) ∧ (¬ (b2 ≤ v3) → (vp_in ((v3 * ((41 : Int32))) + v2) 1968 ∧ (vp_in v3 48 ∧ (∀ z8 : St, z8 = wR z5 50 (upd (gF z5 50) v3.toNatClampNeg (gF z5 49 ((v3 * ((41 : Int32))) + v2).toNatClampNeg)) → (vp_in v3 48 ∧ (vp_in b1 6 ∧ (∀ x9 : Int32, x9 = (if (0 : Int32) < (v2 + (gF z8 50 v3.toNatClampNeg)) - (gF z8 45 b1.toNatClampNeg) then (v2 + (gF z8 50 v3.toNatClampNeg)) - (gF z8 45 b1.toNatClampNeg) else (0 : Int32)) → (vp_in v3 48 ∧ (∀ z10 : St, z10 = wR z8 51 (upd (gF z8 51) v3.toNatClampNeg x9) → (∀ x11 : Int32, x11 = v3 + (1) → K4 x9 x11 z10))))))))))) → K4 v2 v3 z5) → K4 x1 ((0 : Int32)) z)))
set_option maxHeartbeats 4000000 in
set_option maxRecDepth 100000 in
theorem m_X7_keep (l : Launch) (D : va_G) (t : Ty3) (a : Nat → Nat) (b1 : Int32) (b2 : Int32) (z : St) (P : St → Prop) (hw : wp_X7_keep b1 b2 z P) : CtV l D t yX7_keep cX7_keep 5 none 1 (wX t a) (wX t a z) [.ref (a 39), .int b1, .int b2] P := by
  refine ctV_of (by decide) (Nat.le_of_ble_eq_true rfl) ?_
  intro p e s m args below meth c A ls C hr hlk h hl
  have hl : lv_has ls 5 [(0, .ref (a 39)), (1, .int b1), (2, .int b2)] := hl
  unfold wp_X7_keep at hw
  refine lv_aload_n (pc := 0) C.1 C.2.1 dX7_keep_0 rfl (lv_at hl 0 rfl) ?_
  refine GX_X7_18_39 (pc := 1) C h dX7_keep_1 ?_
  refine lv_iload_n (pc := 4) C.1 C.2.1 dX7_keep_4 rfl (lv_at hl 1 rfl) ?_
  refine ldX_42 (pc := 5) C h hw.1 dX7_keep_5 ?_
  have hw := hw.2
  refine lv_topi (fun x1 ex1 => ?_)
  have hw := hw x1 ex1
  refine lv_istore_n (lv' := [(3, .int x1), (0, .ref (a 39)), (1, .int b1), (2, .int b2)]) (pc := 6) C.1 C.2.1 dX7_keep_6 rfl hl (by decide) rfl (fun ls hl => ?_)
  refine lv_iconst (v := 0) (pc := 7) C.1 C.2.1 dX7_keep_7 (by decide) ?_
  have hw := hw (fun (v2 : Int32) (v3 : Int32) (z5 : St) => ∀ (H : Heap) (locs : List Loc) (ls : Array Slot), wd D t A s (wX t a z5) H locs → lv_has ls 5 [(0, .ref (a 39)), (1, .int b1), (2, .int b2), (3, .int v2), (4, .int v3)] → W p l e (rmd 1) s m args below meth c H locs 0 0 (QV D t A (wX t a) P below args s) (F0 m 10 ls [])) (by
      intro v2 v3 z5 hw H locs ls h hl
      refine lv_iload (pc := 10) C.1 C.2.1 dX7_keep_10 (lv_at hl 4 rfl) ?_
      refine lv_iload_n (pc := 12) C.1 C.2.1 dX7_keep_12 rfl (lv_at hl 2 rfl) ?_
      refine lv_icmp_ge (tgt := 70) (pc := 13) C.1 C.2.1 dX7_keep_13 (by decide) (fun c6 => ?_) (fun c6 => ?_)
      · have hw := hw.1 c6
        refine lv_aload_n (pc := 70) C.1 C.2.1 dX7_keep_70 rfl (lv_at hl 0 rfl) ?_
        refine lv_iload_n (pc := 71) C.1 C.2.1 dX7_keep_71 rfl (lv_at hl 2 rfl) ?_
        refine PX_X7_61_39 (pc := 72) C h dX7_keep_72 (fun z7 ez7 H locs h => ?_)
        have hw := hw z7 ez7
        exact rt_v (pc := 75) C hr hlk h hw dX7_keep_75
      · have hw := hw.2 c6
        refine lv_aload_n (pc := 16) C.1 C.2.1 dX7_keep_16 rfl (lv_at hl 0 rfl) ?_
        refine GX_X7_43_39 (pc := 17) C h dX7_keep_17 ?_
        refine lv_iload (pc := 20) C.1 C.2.1 dX7_keep_20 (lv_at hl 4 rfl) ?_
        refine lv_aload_n (pc := 22) C.1 C.2.1 dX7_keep_22 rfl (lv_at hl 0 rfl) ?_
        refine GX_X7_40_39 (pc := 23) C h dX7_keep_23 ?_
        refine lv_iload (pc := 26) C.1 C.2.1 dX7_keep_26 (lv_at hl 4 rfl) ?_
        refine lv_bipush (v := 41) (pc := 28) C.1 C.2.1 dX7_keep_28 (by decide) ?_
        refine lv_imul (pc := 30) C.1 C.2.1 dX7_keep_30 ?_
        refine lv_iload_n (pc := 31) C.1 C.2.1 dX7_keep_31 rfl (lv_at hl 3 rfl) ?_
        refine lv_iadd (pc := 32) C.1 C.2.1 dX7_keep_32 ?_
        refine ldX_49 (pc := 33) C h hw.1 dX7_keep_33 ?_
        have hw := hw.2
        refine stX_50 (pc := 34) C h hw.1 dX7_keep_34 (fun z8 ez8 H locs h => ?_)
        have hw := hw.2 z8 ez8
        refine lv_iconst (v := 0) (pc := 35) C.1 C.2.1 dX7_keep_35 (by decide) ?_
        refine lv_iload_n (pc := 36) C.1 C.2.1 dX7_keep_36 rfl (lv_at hl 3 rfl) ?_
        refine lv_aload_n (pc := 37) C.1 C.2.1 dX7_keep_37 rfl (lv_at hl 0 rfl) ?_
        refine GX_X7_43_39 (pc := 38) C h dX7_keep_38 ?_
        refine lv_iload (pc := 41) C.1 C.2.1 dX7_keep_41 (lv_at hl 4 rfl) ?_
        refine ldX_50 (pc := 43) C h hw.1 dX7_keep_43 ?_
        have hw := hw.2
        refine lv_iadd (pc := 44) C.1 C.2.1 dX7_keep_44 ?_
        refine lv_aload_n (pc := 45) C.1 C.2.1 dX7_keep_45 rfl (lv_at hl 0 rfl) ?_
        refine GX_X7_27_39 (pc := 46) C h dX7_keep_46 ?_
        refine lv_iload_n (pc := 49) C.1 C.2.1 dX7_keep_49 rfl (lv_at hl 1 rfl) ?_
        refine ldX_45 (pc := 50) C h hw.1 dX7_keep_50 ?_
        have hw := hw.2
        refine lv_isub (pc := 51) C.1 C.2.1 dX7_keep_51 ?_
        refine r_max (pc := 52) C lm_X7_92 m1_max m2_max m3_max ⟨by decide, by decide⟩ ⟨Nat.zero_le _, Nat.zero_le _⟩ hl.1 (Nat.le_of_ble_eq_true rfl) dX7_keep_52 ?_
        refine lv_topi (fun x9 ex9 => ?_)
        have hw := hw x9 ex9
        refine lv_istore_n (lv' := [(3, .int x9), (0, .ref (a 39)), (1, .int b1), (2, .int b2), (4, .int v3)]) (pc := 55) C.1 C.2.1 dX7_keep_55 rfl hl (by decide) rfl (fun ls hl => ?_)
        refine lv_aload_n (pc := 56) C.1 C.2.1 dX7_keep_56 rfl (lv_at hl 1 rfl) ?_
        refine GX_X7_46_39 (pc := 57) C h dX7_keep_57 ?_
        refine lv_iload (pc := 60) C.1 C.2.1 dX7_keep_60 (lv_at hl 4 rfl) ?_
        refine lv_iload_n (pc := 62) C.1 C.2.1 dX7_keep_62 rfl (lv_at hl 0 rfl) ?_
        refine stX_51 (pc := 63) C h hw.1 dX7_keep_63 (fun z10 ez10 H locs h => ?_)
        have hw := hw.2 z10 ez10
        obtain ⟨x11, ex11⟩ : ∃ y : Int32, y = v3 + (1) := ⟨_, rfl⟩
        have hw := hw x11 ex11
        refine lv_iinc (v := x11) (lv' := [(4, .int x11), (3, .int x9), (0, .ref (a 39)), (1, .int b1), (2, .int b2)]) (pc := 64) C.1 C.2.1 dX7_keep_64 hl (k := 4) rfl (by rw [ex11]; rfl) (by decide) rfl (fun ls hl => ?_)
        refine lv_goto (tgt := 10) (pc := 67) C.1 C.2.1 dX7_keep_67 (by decide) ?_
        exact hw _ _ _ h (lv_sub hl [2, 3, 4, 1, 0] rfl))
  refine lv_istore (lv' := [(4, .int ((0 : Int32))), (3, .int x1), (0, .ref (a 39)), (1, .int b1), (2, .int b2)]) (pc := 8) C.1 C.2.1 dX7_keep_8 hl (by decide) rfl (fun ls hl => ?_)
  exact hw _ _ _ h (lv_sub hl [2, 3, 4, 1, 0] rfl)
