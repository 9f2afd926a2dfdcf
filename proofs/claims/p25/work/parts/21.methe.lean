def wp_X1_costFrom_5 (b1 : Int32) (b2 : Int32) (z : St) (P : Int64 → Prop) : Prop :=
  (∀ K3 : Int64 → Int32 → Prop, (∀ (v1 : Int64) (v2 : Int32), (vp_in b1 16 ∧ ((((gF z 17 b1.toNatClampNeg) ≤ v2) → P v1) ∧ (¬ ((gF z 17 b1.toNatClampNeg) ≤ v2) → (((((168 : Int32)) ≤ (b2 + v2)) → P v1) ∧ (¬ (((168 : Int32)) ≤ (b2 + v2)) → (vp_in ((b1 * ((4 : Int32))) + v2) 64 ∧ (vp_in (b2 + v2) 168 ∧ (∀ x6 : Int64, x6 = v1 + (Int32.toInt64 ((gF z 18 ((b1 * ((4 : Int32))) + v2).toNatClampNeg) * (gF z 5 (b2 + v2).toNatClampNeg))) → (∀ x7 : Int32, x7 = v2 + (1) → K3 x6 x7))))))))) → K3 v1 v2) → K3 ((0 : Int64)) ((0 : Int32)))
set_option maxHeartbeats 4000000 in
set_option maxRecDepth 100000 in
theorem m_X1_costFrom_5 (l : Launch) (D : va_G) (t : Ty3) (a : Nat → Nat) (b1 : Int32) (b2 : Int32) (z : St) (P : Int64 → Prop) (hw : wp_X1_costFrom_5 b1 b2 z P) : CtL l D t yX1_costFrom cX1_costFrom 7 (some .long) 0 (wX t a) (wX t a z) [.ref (a 13), .int b1, .int b2, .ref (a 5)] (fun rr zz => zz = z ∧ P rr) := by
  refine ctL_of (by decide) (Nat.le_of_ble_eq_true rfl) ?_
  intro p e s m args below meth c A ls C hr hlk h hl
  have hl : lv_has ls 7 [(0, .ref (a 13)), (1, .int b1), (2, .int b2), (3, .ref (a 5))] := hl
  unfold wp_X1_costFrom_5 at hw
  refine lv_lconst (v := 0) (pc := 0) C.1 C.2.1 dX1_costFrom_0 (by decide) ?_
  refine lv_lstore (lv' := [(4, .long ((0 : Int64))), (0, .ref (a 13)), (1, .int b1), (2, .int b2), (3, .ref (a 5))]) (pc := 1) C.1 C.2.1 dX1_costFrom_1 hl (by decide) rfl (fun ls hl => ?_)
  refine lv_iconst (v := 0) (pc := 3) C.1 C.2.1 dX1_costFrom_3 (by decide) ?_
  have hw := hw (fun (v1 : Int64) (v2 : Int32) => ∀ (H : Heap) (locs : List Loc) (ls : Array Slot), wd D t A s (wX t a z) H locs → lv_has ls 7 [(0, .ref (a 13)), (1, .int b1), (2, .int b2), (3, .ref (a 5)), (4, .long v1), (6, .int v2)] → W p l e (rmd 0) s m args below meth c H locs 0 0 (QL D t A (wX t a) (fun rr zz => zz = z ∧ P rr) below args s) (F0 m 6 ls [])) (by
      intro v1 v2 hw H locs ls h hl
      refine lv_iload (pc := 6) C.1 C.2.1 dX1_costFrom_6 (lv_at hl 5 rfl) ?_
      refine lv_aload_n (pc := 8) C.1 C.2.1 dX1_costFrom_8 rfl (lv_at hl 0 rfl) ?_
      refine GX_X1_21_13 (pc := 9) C h dX1_costFrom_9 ?_
      refine lv_iload_n (pc := 12) C.1 C.2.1 dX1_costFrom_12 rfl (lv_at hl 1 rfl) ?_
      refine ldX_17 (pc := 13) C h hw.1 dX1_costFrom_13 ?_
      have hw := hw.2
      refine lv_icmp_ge (tgt := 57) (pc := 14) C.1 C.2.1 dX1_costFrom_14 (by decide) (fun c4 => ?_) (fun c4 => ?_)
      · have hw := hw.1 c4
        refine lv_lload (pc := 57) C.1 C.2.1 dX1_costFrom_57 (lv_at hl 4 rfl) ?_
        exact rt_l (pc := 59) C hr hlk h ⟨rfl, hw⟩ dX1_costFrom_59
      · have hw := hw.2 c4
        refine lv_iload_n (pc := 17) C.1 C.2.1 dX1_costFrom_17 rfl (lv_at hl 2 rfl) ?_
        refine lv_iload (pc := 18) C.1 C.2.1 dX1_costFrom_18 (lv_at hl 5 rfl) ?_
        refine lv_iadd (pc := 20) C.1 C.2.1 dX1_costFrom_20 ?_
        refine lv_sipush (v := 168) (pc := 21) C.1 C.2.1 dX1_costFrom_21 (by decide) ?_
        refine lv_icmp_ge (tgt := 57) (pc := 24) C.1 C.2.1 dX1_costFrom_24 (by decide) (fun c5 => ?_) (fun c5 => ?_)
        · have hw := hw.1 c5
          refine lv_lload (pc := 57) C.1 C.2.1 dX1_costFrom_57 (lv_at hl 4 rfl) ?_
          exact rt_l (pc := 59) C hr hlk h ⟨rfl, hw⟩ dX1_costFrom_59
        · have hw := hw.2 c5
          refine lv_lload (pc := 27) C.1 C.2.1 dX1_costFrom_27 (lv_at hl 4 rfl) ?_
          refine lv_aload_n (pc := 29) C.1 C.2.1 dX1_costFrom_29 rfl (lv_at hl 0 rfl) ?_
          refine GX_X1_24_13 (pc := 30) C h dX1_costFrom_30 ?_
          refine lv_iload_n (pc := 33) C.1 C.2.1 dX1_costFrom_33 rfl (lv_at hl 1 rfl) ?_
          refine lv_iconst (v := 4) (pc := 34) C.1 C.2.1 dX1_costFrom_34 (by decide) ?_
          refine lv_imul (pc := 35) C.1 C.2.1 dX1_costFrom_35 ?_
          refine lv_iload (pc := 36) C.1 C.2.1 dX1_costFrom_36 (lv_at hl 5 rfl) ?_
          refine lv_iadd (pc := 38) C.1 C.2.1 dX1_costFrom_38 ?_
          refine ldX_18 (pc := 39) C h hw.1 dX1_costFrom_39 ?_
          have hw := hw.2
          refine lv_aload_n (pc := 40) C.1 C.2.1 dX1_costFrom_40 rfl (lv_at hl 3 rfl) ?_
          refine lv_iload_n (pc := 41) C.1 C.2.1 dX1_costFrom_41 rfl (lv_at hl 2 rfl) ?_
          refine lv_iload (pc := 42) C.1 C.2.1 dX1_costFrom_42 (lv_at hl 5 rfl) ?_
          refine lv_iadd (pc := 44) C.1 C.2.1 dX1_costFrom_44 ?_
          refine ldX_5 (pc := 45) C h hw.1 dX1_costFrom_45 ?_
          have hw := hw.2
          refine lv_imul (pc := 46) C.1 C.2.1 dX1_costFrom_46 ?_
          refine lv_i2l (pc := 47) C.1 C.2.1 dX1_costFrom_47 rfl ?_
          refine lv_ladd (pc := 48) C.1 C.2.1 dX1_costFrom_48 ?_
          refine lv_topl (fun x6 ex6 => ?_)
          have hw := hw x6 ex6
          refine lv_lstore (lv' := [(4, .long x6), (0, .ref (a 13)), (1, .int b1), (2, .int b2), (3, .ref (a 5)), (6, .int v2)]) (pc := 49) C.1 C.2.1 dX1_costFrom_49 hl (by decide) rfl (fun ls hl => ?_)
          obtain ⟨x7, ex7⟩ : ∃ y : Int32, y = v2 + (1) := ⟨_, rfl⟩
          have hw := hw x7 ex7
          refine lv_iinc (v := x7) (lv' := [(6, .int x7), (4, .long x6), (0, .ref (a 13)), (1, .int b1), (2, .int b2), (3, .ref (a 5))]) (pc := 51) C.1 C.2.1 dX1_costFrom_51 hl (k := 5) rfl (by rw [ex7]; rfl) (by decide) rfl (fun ls hl => ?_)
          refine lv_goto (tgt := 6) (pc := 54) C.1 C.2.1 dX1_costFrom_54 (by decide) ?_
          exact hw _ _ _ h (lv_sub hl [2, 3, 4, 5, 1, 0] rfl))
  refine lv_istore (lv' := [(6, .int ((0 : Int32))), (4, .long ((0 : Int64))), (0, .ref (a 13)), (1, .int b1), (2, .int b2), (3, .ref (a 5))]) (pc := 4) C.1 C.2.1 dX1_costFrom_4 hl (by decide) rfl (fun ls hl => ?_)
  exact hw _ _ _ h (lv_sub hl [2, 3, 4, 5, 1, 0] rfl)

def wp_X6_offer (b1 : Int32) (b2 : Int32) (b3 : Int64) (z : St) (P : St → Prop) : Prop :=
  (∀ x1 : Int32, x1 = b1 * ((24 : Int32)) → (vp_in (x1 + b2) 120 ∧ (∀ z2 : St, z2 = wL z 28 (vp_updL (gG z 28) (x1 + b2).toNatClampNeg b3) → (vp_in b1 30 ∧ (vp_in b1 30 ∧ (∀ z3 : St, z3 = wR z2 30 (upd (gF z2 30) b1.toNatClampNeg ((gF z2 30 b1.toNatClampNeg) ||| (((1 : Int32)) <<< (b2 &&& 31)))) → (vp_in b1 5 ∧ (vp_in (x1 + (gF z3 25 b1.toNatClampNeg)) 120 ∧ (∀ z4 : St, z4 = wR z3 26 (upd (gF z3 26) (x1 + (gF z3 25 b1.toNatClampNeg)).toNatClampNeg b2) → (vp_in b1 5 ∧ (∀ K6 : Int32 → St → Prop, (∀ (v5 : Int32) (z7 : St), (∀ K8 : Prop, ((vp_in (x1 + v5) 120 ∧ (∀ z9 : St, z9 = wR z7 27 (upd (gF z7 27) (x1 + v5).toNatClampNeg b2) → (vp_in b1 5 ∧ (vp_in b1 5 ∧ (∀ z10 : St, z10 = wR z9 25 (upd (gF z9 25) b1.toNatClampNeg ((gF z9 25 b1.toNatClampNeg) + ((1 : Int32)))) → P z10))))) → K8) → (((v5 ≤ 0) → K8) ∧ (¬ (v5 ≤ 0) → (vp_in ((x1 + v5) - ((1 : Int32))) 120 ∧ (vp_in (x1 + (gF z7 27 ((x1 + v5) - ((1 : Int32))).toNatClampNeg)) 120 ∧ ((((lg_cmp (gG z7 28 (x1 + (gF z7 27 ((x1 + v5) - ((1 : Int32))).toNatClampNeg)).toNatClampNeg) b3) ≤ 0) → K8) ∧ (¬ ((lg_cmp (gG z7 28 (x1 + (gF z7 27 ((x1 + v5) - ((1 : Int32))).toNatClampNeg)).toNatClampNeg) b3) ≤ 0) → (vp_in ((x1 + v5) - ((1 : Int32))) 120 ∧ (vp_in (x1 + v5) 120 ∧ (∀ z13 : St, z13 = wR z7 27 (upd (gF z7 27) (x1 + v5).toNatClampNeg (gF z7 27 ((x1 + v5) - ((1 : Int32))).toNatClampNeg)) → (∀ x14 : Int32, x14 = v5 + (-1) → K6 x14 z13))))))))))) → K6 v5 z7) → (∀ x15 : Int32, x15 = gF z4 25 b1.toNatClampNeg → K6 x15 z4))))))))))))
set_option maxHeartbeats 4000000 in
set_option maxRecDepth 100000 in
theorem m_X6_offer (l : Launch) (D : va_G) (t : Ty3) (a : Nat → Nat) (b1 : Int32) (b2 : Int32) (b3 : Int64) (z : St) (P : St → Prop) (hw : wp_X6_offer b1 b2 b3 z P) : CtV l D t yX6_offer cX6_offer 7 none 0 (wX t a) (wX t a z) [.ref (a 22), .int b1, .int b2, .long b3] P := by
  refine ctV_of (by decide) (Nat.le_of_ble_eq_true rfl) ?_
  intro p e s m args below meth c A ls C hr hlk h hl
  have hl : lv_has ls 7 [(0, .ref (a 22)), (1, .int b1), (2, .int b2), (3, .long b3)] := hl
  unfold wp_X6_offer at hw
  refine lv_iload_n (pc := 0) C.1 C.2.1 dX6_offer_0 rfl (lv_at hl 1 rfl) ?_
  refine lv_bipush (v := 24) (pc := 1) C.1 C.2.1 dX6_offer_1 (by decide) ?_
  refine lv_imul (pc := 3) C.1 C.2.1 dX6_offer_3 ?_
  refine lv_topi (fun x1 ex1 => ?_)
  have hw := hw x1 ex1
  refine lv_istore (lv' := [(5, .int x1), (0, .ref (a 22)), (1, .int b1), (2, .int b2), (3, .long b3)]) (pc := 4) C.1 C.2.1 dX6_offer_4 hl (by decide) rfl (fun ls hl => ?_)
  refine lv_aload_n (pc := 6) C.1 C.2.1 dX6_offer_6 rfl (lv_at hl 1 rfl) ?_
  refine GX_X6_27_22 (pc := 7) C h dX6_offer_7 ?_
  refine lv_iload (pc := 10) C.1 C.2.1 dX6_offer_10 (lv_at hl 0 rfl) ?_
  refine lv_iload_n (pc := 12) C.1 C.2.1 dX6_offer_12 rfl (lv_at hl 3 rfl) ?_
  refine lv_iadd (pc := 13) C.1 C.2.1 dX6_offer_13 ?_
  refine lv_lload_n (pc := 14) C.1 C.2.1 dX6_offer_14 rfl (lv_at hl 4 rfl) ?_
  refine stX_28 (pc := 15) C h hw.1 dX6_offer_15 (fun z2 ez2 H locs h => ?_)
  have hw := hw.2 z2 ez2
  refine lv_aload_n (pc := 16) C.1 C.2.1 dX6_offer_16 rfl (lv_at hl 1 rfl) ?_
  refine GX_X6_34_22 (pc := 17) C h dX6_offer_17 ?_
  refine lv_iload_n (pc := 20) C.1 C.2.1 dX6_offer_20 rfl (lv_at hl 2 rfl) ?_
  refine lv_dup2_11 (pc := 21) C.1 C.2.1 dX6_offer_21 rfl rfl ?_
  refine ldX_30 (pc := 22) C h hw.1 dX6_offer_22 ?_
  have hw := hw.2
  refine lv_iconst (v := 1) (pc := 23) C.1 C.2.1 dX6_offer_23 (by decide) ?_
  refine lv_iload_n (pc := 24) C.1 C.2.1 dX6_offer_24 rfl (lv_at hl 3 rfl) ?_
  refine lv_ishl (pc := 25) C.1 C.2.1 dX6_offer_25 ?_
  refine lv_ior (pc := 26) C.1 C.2.1 dX6_offer_26 ?_
  refine stX_30 (pc := 27) C h hw.1 dX6_offer_27 (fun z3 ez3 H locs h => ?_)
  have hw := hw.2 z3 ez3
  refine lv_aload_n (pc := 28) C.1 C.2.1 dX6_offer_28 rfl (lv_at hl 1 rfl) ?_
  refine GX_X6_21_22 (pc := 29) C h dX6_offer_29 ?_
  refine lv_iload (pc := 32) C.1 C.2.1 dX6_offer_32 (lv_at hl 0 rfl) ?_
  refine lv_aload_n (pc := 34) C.1 C.2.1 dX6_offer_34 rfl (lv_at hl 1 rfl) ?_
  refine GX_X6_18_22 (pc := 35) C h dX6_offer_35 ?_
  refine lv_iload_n (pc := 38) C.1 C.2.1 dX6_offer_38 rfl (lv_at hl 2 rfl) ?_
  refine ldX_25 (pc := 39) C h hw.1 dX6_offer_39 ?_
  have hw := hw.2
  refine lv_iadd (pc := 40) C.1 C.2.1 dX6_offer_40 ?_
  refine lv_iload_n (pc := 41) C.1 C.2.1 dX6_offer_41 rfl (lv_at hl 3 rfl) ?_
  refine stX_26 (pc := 42) C h hw.1 dX6_offer_42 (fun z4 ez4 H locs h => ?_)
  have hw := hw.2 z4 ez4
  refine lv_aload_n (pc := 43) C.1 C.2.1 dX6_offer_43 rfl (lv_at hl 1 rfl) ?_
  refine GX_X6_18_22 (pc := 44) C h dX6_offer_44 ?_
  refine lv_iload_n (pc := 47) C.1 C.2.1 dX6_offer_47 rfl (lv_at hl 2 rfl) ?_
  refine ldX_25 (pc := 48) C h hw.1 dX6_offer_48 ?_
  have hw := hw.2
  have hw := hw (fun (v5 : Int32) (z7 : St) => ∀ (H : Heap) (locs : List Loc) (ls : Array Slot), wd D t A s (wX t a z7) H locs → lv_has ls 7 [(0, .ref (a 22)), (1, .int b1), (2, .int b2), (3, .long b3), (5, .int x1), (6, .int v5)] → W p l e (rmd 0) s m args below meth c H locs 0 0 (QV D t A (wX t a) P below args s) (F0 m 51 ls [])) (by
      intro v5 z7 hw H locs ls h hl
      refine lv_iload (pc := 51) C.1 C.2.1 dX6_offer_51 (lv_at hl 5 rfl) ?_
      have hw := hw (∀ (H : Heap) (locs : List Loc) (ls : Array Slot), wd D t A s (wX t a z7) H locs → lv_has ls 7 [(0, .ref (a 22)), (1, .int b1), (2, .int b2), (5, .int x1), (6, .int v5)] → W p l e (rmd 0) s m args below meth c H locs 0 0 (QV D t A (wX t a) P below args s) (F0 m 109 ls [])) (by
          intro hw H locs ls h hl
          refine lv_aload_n (pc := 109) C.1 C.2.1 dX6_offer_109 rfl (lv_at hl 0 rfl) ?_
          refine GX_X6_24_22 (pc := 110) C h dX6_offer_110 ?_
          refine lv_iload (pc := 113) C.1 C.2.1 dX6_offer_113 (lv_at hl 3 rfl) ?_
          refine lv_iload (pc := 115) C.1 C.2.1 dX6_offer_115 (lv_at hl 4 rfl) ?_
          refine lv_iadd (pc := 117) C.1 C.2.1 dX6_offer_117 ?_
          refine lv_iload_n (pc := 118) C.1 C.2.1 dX6_offer_118 rfl (lv_at hl 2 rfl) ?_
          refine stX_27 (pc := 119) C h hw.1 dX6_offer_119 (fun z9 ez9 H locs h => ?_)
          have hw := hw.2 z9 ez9
          refine lv_aload_n (pc := 120) C.1 C.2.1 dX6_offer_120 rfl (lv_at hl 0 rfl) ?_
          refine GX_X6_18_22 (pc := 121) C h dX6_offer_121 ?_
          refine lv_iload_n (pc := 124) C.1 C.2.1 dX6_offer_124 rfl (lv_at hl 1 rfl) ?_
          refine lv_dup2_11 (pc := 125) C.1 C.2.1 dX6_offer_125 rfl rfl ?_
          refine ldX_25 (pc := 126) C h hw.1 dX6_offer_126 ?_
          have hw := hw.2
          refine lv_iconst (v := 1) (pc := 127) C.1 C.2.1 dX6_offer_127 (by decide) ?_
          refine lv_iadd (pc := 128) C.1 C.2.1 dX6_offer_128 ?_
          refine stX_25 (pc := 129) C h hw.1 dX6_offer_129 (fun z10 ez10 H locs h => ?_)
          have hw := hw.2 z10 ez10
          exact rt_v (pc := 130) C hr hlk h hw dX6_offer_130)
      refine lv_if_le (tgt := 109) (pc := 53) C.1 C.2.1 dX6_offer_53 (by decide) (fun c11 => ?_) (fun c11 => ?_)
      · have hw := hw.1 c11
        exact hw _ _ _ h (lv_sub hl [0, 1, 2, 4, 5] rfl)
      · have hw := hw.2 c11
        refine lv_aload_n (pc := 56) C.1 C.2.1 dX6_offer_56 rfl (lv_at hl 0 rfl) ?_
        refine GX_X6_27_22 (pc := 57) C h dX6_offer_57 ?_
        refine lv_iload (pc := 60) C.1 C.2.1 dX6_offer_60 (lv_at hl 4 rfl) ?_
        refine lv_aload_n (pc := 62) C.1 C.2.1 dX6_offer_62 rfl (lv_at hl 0 rfl) ?_
        refine GX_X6_24_22 (pc := 63) C h dX6_offer_63 ?_
        refine lv_iload (pc := 66) C.1 C.2.1 dX6_offer_66 (lv_at hl 4 rfl) ?_
        refine lv_iload (pc := 68) C.1 C.2.1 dX6_offer_68 (lv_at hl 5 rfl) ?_
        refine lv_iadd (pc := 70) C.1 C.2.1 dX6_offer_70 ?_
        refine lv_iconst (v := 1) (pc := 71) C.1 C.2.1 dX6_offer_71 (by decide) ?_
        refine lv_isub (pc := 72) C.1 C.2.1 dX6_offer_72 ?_
        refine ldX_27 (pc := 73) C h hw.1 dX6_offer_73 ?_
        have hw := hw.2
        refine lv_iadd (pc := 74) C.1 C.2.1 dX6_offer_74 ?_
        refine ldX_28 (pc := 75) C h hw.1 dX6_offer_75 ?_
        have hw := hw.2
        refine lv_lload_n (pc := 76) C.1 C.2.1 dX6_offer_76 rfl (lv_at hl 3 rfl) ?_
        refine W.lcmp (pc := 77) C.1 C.2.1 dX6_offer_77 ?_
        refine lv_if_le (tgt := 109) (pc := 78) C.1 C.2.1 dX6_offer_78 (by decide) (fun c12 => ?_) (fun c12 => ?_)
        · have hw := hw.1 c12
          exact hw _ _ _ h (lv_sub hl [0, 1, 2, 4, 5] rfl)
        · have hw := hw.2 c12
          refine lv_aload_n (pc := 81) C.1 C.2.1 dX6_offer_81 rfl (lv_at hl 0 rfl) ?_
          refine GX_X6_24_22 (pc := 82) C h dX6_offer_82 ?_
          refine lv_iload (pc := 85) C.1 C.2.1 dX6_offer_85 (lv_at hl 4 rfl) ?_
          refine lv_iload (pc := 87) C.1 C.2.1 dX6_offer_87 (lv_at hl 5 rfl) ?_
          refine lv_iadd (pc := 89) C.1 C.2.1 dX6_offer_89 ?_
          refine lv_aload_n (pc := 90) C.1 C.2.1 dX6_offer_90 rfl (lv_at hl 0 rfl) ?_
          refine GX_X6_24_22 (pc := 91) C h dX6_offer_91 ?_
          refine lv_iload (pc := 94) C.1 C.2.1 dX6_offer_94 (lv_at hl 4 rfl) ?_
          refine lv_iload (pc := 96) C.1 C.2.1 dX6_offer_96 (lv_at hl 5 rfl) ?_
          refine lv_iadd (pc := 98) C.1 C.2.1 dX6_offer_98 ?_
          refine lv_iconst (v := 1) (pc := 99) C.1 C.2.1 dX6_offer_99 (by decide) ?_
          refine lv_isub (pc := 100) C.1 C.2.1 dX6_offer_100 ?_
          refine ldX_27 (pc := 101) C h hw.1 dX6_offer_101 ?_
          have hw := hw.2
          refine stX_27 (pc := 102) C h hw.1 dX6_offer_102 (fun z13 ez13 H locs h => ?_)
          have hw := hw.2 z13 ez13
          obtain ⟨x14, ex14⟩ : ∃ y : Int32, y = v5 + (-1) := ⟨_, rfl⟩
          have hw := hw x14 ex14
          refine lv_iinc (v := x14) (lv' := [(6, .int x14), (0, .ref (a 22)), (1, .int b1), (2, .int b2), (3, .long b3), (5, .int x1)]) (pc := 103) C.1 C.2.1 dX6_offer_103 hl (k := 5) rfl (by rw [ex14]; rfl) (by decide) rfl (fun ls hl => ?_)
          refine lv_goto (tgt := 51) (pc := 106) C.1 C.2.1 dX6_offer_106 (by decide) ?_
          exact hw _ _ _ h (lv_sub hl [1, 2, 3, 4, 5, 0] rfl))
  refine lv_topi (fun x15 ex15 => ?_)
  have hw := hw x15 ex15
  refine lv_istore (lv' := [(6, .int x15), (5, .int x1), (0, .ref (a 22)), (1, .int b1), (2, .int b2), (3, .long b3)]) (pc := 49) C.1 C.2.1 dX6_offer_49 hl (by decide) rfl (fun ls hl => ?_)
  exact hw _ _ _ h (lv_sub hl [2, 3, 4, 5, 1, 0] rfl)

def wp_X2_offerHours (b1 : Int32) (z : St) (P : St → Prop) : Prop :=
  (vp_in b1 5 ∧ (∀ x1 : Int32, x1 = gF z 23 b1.toNatClampNeg → (vp_in x1 16 ∧ (∀ K3 : Int32 → St → Prop, (∀ (v2 : Int32) (z4 : St), (vp_in x1 16 ∧ ((((gF z4 16 x1.toNatClampNeg) < v2) → P z4) ∧ (¬ ((gF z4 16 x1.toNatClampNeg) < v2) → (wp_X2_mayBegin x1 v2 z4 (fun r7 => (∀ K8 : St → Prop, (∀ (z9 : St), (∀ x10 : Int32, x10 = v2 + (1) → K3 x10 z9) → K8 z9) → (((r7 = 0) → K8 z4) ∧ (¬ (r7 = 0) → (vp_in x1 16 ∧ (wp_X1_costFrom_5 x1 v2 z4 (fun r13 => (wp_X6_offer b1 (v2 - (gF z4 15 x1.toNatClampNeg)) r13 z4 (fun z14 => K8 z14))))))))))))) → K3 v2 z4) → (∀ x16 : Int32, x16 = gF z 15 x1.toNatClampNeg → K3 x16 z)))))
set_option maxHeartbeats 4000000 in
set_option maxRecDepth 100000 in
theorem m_X2_offerHours (l : Launch) (D : va_G) (t : Ty3) (a : Nat → Nat) (b1 : Int32) (z : St) (P : St → Prop) (hw : wp_X2_offerHours b1 z P) : CtV l D t yX2_offerHours cX2_offerHours 4 none 4 (wX t a) (wX t a z) [.ref (a 21), .int b1] P := by
  refine ctV_of (by decide) (Nat.le_of_ble_eq_true rfl) ?_
  intro p e s m args below meth c A ls C hr hlk h hl
  have hl : lv_has ls 4 [(0, .ref (a 21)), (1, .int b1)] := hl
  unfold wp_X2_offerHours at hw
  refine lv_aload_n (pc := 0) C.1 C.2.1 dX2_offerHours_0 rfl (lv_at hl 0 rfl) ?_
  refine GX_X2_24_21 (pc := 1) C h dX2_offerHours_1 ?_
  refine GX_X2_126_22 (pc := 4) C h dX2_offerHours_4 ?_
  refine lv_iload_n (pc := 7) C.1 C.2.1 dX2_offerHours_7 rfl (lv_at hl 1 rfl) ?_
  refine ldX_23 (pc := 8) C h hw.1 dX2_offerHours_8 ?_
  have hw := hw.2
  refine lv_topi (fun x1 ex1 => ?_)
  have hw := hw x1 ex1
  refine lv_istore_n (lv' := [(2, .int x1), (0, .ref (a 21)), (1, .int b1)]) (pc := 9) C.1 C.2.1 dX2_offerHours_9 rfl hl (by decide) rfl (fun ls hl => ?_)
  refine lv_aload_n (pc := 10) C.1 C.2.1 dX2_offerHours_10 rfl (lv_at hl 1 rfl) ?_
  refine GX_X2_15_21 (pc := 11) C h dX2_offerHours_11 ?_
  refine GX_X2_60_13 (pc := 14) C h dX2_offerHours_14 ?_
  refine lv_iload_n (pc := 17) C.1 C.2.1 dX2_offerHours_17 rfl (lv_at hl 0 rfl) ?_
  refine ldX_15 (pc := 18) C h hw.1 dX2_offerHours_18 ?_
  have hw := hw.2
  have hw := hw (fun (v2 : Int32) (z4 : St) => ∀ (H : Heap) (locs : List Loc) (ls : Array Slot), wd D t A s (wX t a z4) H locs → lv_has ls 4 [(0, .ref (a 21)), (1, .int b1), (2, .int x1), (3, .int v2)] → W p l e (rmd 4) s m args below meth c H locs 0 0 (QV D t A (wX t a) P below args s) (F0 m 20 ls [])) (by
      intro v2 z4 hw H locs ls h hl
      refine lv_iload_n (pc := 20) C.1 C.2.1 dX2_offerHours_20 rfl (lv_at hl 3 rfl) ?_
      refine lv_aload_n (pc := 21) C.1 C.2.1 dX2_offerHours_21 rfl (lv_at hl 0 rfl) ?_
      refine GX_X2_15_21 (pc := 22) C h dX2_offerHours_22 ?_
      refine GX_X2_63_13 (pc := 25) C h dX2_offerHours_25 ?_
      refine lv_iload_n (pc := 28) C.1 C.2.1 dX2_offerHours_28 rfl (lv_at hl 2 rfl) ?_
      refine ldX_16 (pc := 29) C h hw.1 dX2_offerHours_29 ?_
      have hw := hw.2
      refine lv_icmp_gt (tgt := 83) (pc := 30) C.1 C.2.1 dX2_offerHours_30 (by decide) (fun c5 => ?_) (fun c5 => ?_)
      · have hw := hw.1 c5
        exact rt_v (pc := 83) C hr hlk h hw dX2_offerHours_83
      · have hw := hw.2 c5
        refine lv_aload_n (pc := 33) C.1 C.2.1 dX2_offerHours_33 rfl (lv_at hl 0 rfl) ?_
        refine lv_iload_n (pc := 34) C.1 C.2.1 dX2_offerHours_34 rfl (lv_at hl 2 rfl) ?_
        refine lv_iload_n (pc := 35) C.1 C.2.1 dX2_offerHours_35 rfl (lv_at hl 3 rfl) ?_
        refine cl_vi (pc := 36) (As := [.int x1, .int v2]) (rest := []) C h (m_X2_mayBegin l D t a x1 v2 z4 _ hw) mw_X2_mayBegin lm_X2_49 md_X2_mayBegin rcX_21 ⟨by decide, by decide⟩ ⟨Nat.zero_le _, Nat.zero_le _⟩ hl.1 rfl (Nat.le_of_ble_eq_true rfl) dX2_offerHours_36 (fun r7 z6 H locs hw h => ?_)
        rw [hw.1] at h
        have hw := hw.2
        have hw := hw (fun (z9 : St) => ∀ (H : Heap) (locs : List Loc) (ls : Array Slot), wd D t A s (wX t a z9) H locs → lv_has ls 4 [(0, .ref (a 21)), (1, .int b1), (2, .int x1), (3, .int v2)] → W p l e (rmd 4) s m args below meth c H locs 0 0 (QV D t A (wX t a) P below args s) (F0 m 77 ls [])) (by
            intro z9 hw H locs ls h hl
            obtain ⟨x10, ex10⟩ : ∃ y : Int32, y = v2 + (1) := ⟨_, rfl⟩
            have hw := hw x10 ex10
            refine lv_iinc (v := x10) (lv' := [(3, .int x10), (0, .ref (a 21)), (1, .int b1), (2, .int x1)]) (pc := 77) C.1 C.2.1 dX2_offerHours_77 hl (k := 3) rfl (by rw [ex10]; rfl) (by decide) rfl (fun ls hl => ?_)
            refine lv_goto (tgt := 20) (pc := 80) C.1 C.2.1 dX2_offerHours_80 (by decide) ?_
            exact hw _ _ _ h (lv_sub hl [1, 2, 3, 0] rfl))
        refine lv_if_eq (tgt := 77) (pc := 39) C.1 C.2.1 dX2_offerHours_39 (by decide) (fun c11 => ?_) (fun c11 => ?_)
        · have hw := hw.1 c11
          exact hw _ _ _ h (lv_sub hl [0, 1, 2, 3] rfl)
        · have hw := hw.2 c11
          refine lv_aload_n (pc := 42) C.1 C.2.1 dX2_offerHours_42 rfl (lv_at hl 0 rfl) ?_
          refine GX_X2_24_21 (pc := 43) C h dX2_offerHours_43 ?_
          refine lv_iload_n (pc := 46) C.1 C.2.1 dX2_offerHours_46 rfl (lv_at hl 1 rfl) ?_
          refine lv_iload_n (pc := 47) C.1 C.2.1 dX2_offerHours_47 rfl (lv_at hl 3 rfl) ?_
          refine lv_aload_n (pc := 48) C.1 C.2.1 dX2_offerHours_48 rfl (lv_at hl 0 rfl) ?_
          refine GX_X2_15_21 (pc := 49) C h dX2_offerHours_49 ?_
          refine GX_X2_60_13 (pc := 52) C h dX2_offerHours_52 ?_
          refine lv_iload_n (pc := 55) C.1 C.2.1 dX2_offerHours_55 rfl (lv_at hl 2 rfl) ?_
          refine ldX_15 (pc := 56) C h hw.1 dX2_offerHours_56 ?_
          have hw := hw.2
          refine lv_isub (pc := 57) C.1 C.2.1 dX2_offerHours_57 ?_
          refine lv_aload_n (pc := 58) C.1 C.2.1 dX2_offerHours_58 rfl (lv_at hl 0 rfl) ?_
          refine GX_X2_15_21 (pc := 59) C h dX2_offerHours_59 ?_
          refine lv_iload_n (pc := 62) C.1 C.2.1 dX2_offerHours_62 rfl (lv_at hl 2 rfl) ?_
          refine lv_iload_n (pc := 63) C.1 C.2.1 dX2_offerHours_63 rfl (lv_at hl 3 rfl) ?_
          refine lv_aload_n (pc := 64) C.1 C.2.1 dX2_offerHours_64 rfl (lv_at hl 0 rfl) ?_
          refine GX_X2_9_21 (pc := 65) C h dX2_offerHours_65 ?_
          refine GX_X2_72_1 (pc := 68) C h dX2_offerHours_68 ?_
          refine cl_vl (pc := 71) (As := [.int x1, .int v2, .ref (a 5)]) (rest := [.int (v2 - (gF z4 15 x1.toNatClampNeg)), .int b1, .ref (a 22)]) C h (m_X1_costFrom_5 l D t a x1 v2 z4 _ hw) mw_X1_costFrom lm_X2_104 md_X1_costFrom rcX_13 ⟨by decide, by decide⟩ ⟨Nat.zero_le _, Nat.zero_le _⟩ hl.1 rfl (Nat.le_of_ble_eq_true rfl) dX2_offerHours_71 (fun r13 z12 H locs hw h => ?_)
          rw [hw.1] at h
          have hw := hw.2
          refine cl_vv (pc := 74) (As := [.int b1, .int (v2 - (gF z4 15 x1.toNatClampNeg)), .long r13]) (rest := []) C h (m_X6_offer l D t a b1 (v2 - (gF z4 15 x1.toNatClampNeg)) r13 z4 _ hw) mw_X6_offer lm_X2_135 md_X6_offer rcX_22 ⟨by decide, by decide⟩ ⟨Nat.zero_le _, Nat.zero_le _⟩ hl.1 rfl (Nat.le_of_ble_eq_true rfl) dX2_offerHours_74 (fun z14 H locs hw h => ?_)
          exact hw _ _ _ h (lv_sub hl [0, 1, 2, 3] rfl))
  refine lv_topi (fun x16 ex16 => ?_)
  have hw := hw x16 ex16
  refine lv_istore_n (lv' := [(3, .int x16), (2, .int x1), (0, .ref (a 21)), (1, .int b1)]) (pc := 19) C.1 C.2.1 dX2_offerHours_19 rfl hl (by decide) rfl (fun ls hl => ?_)
  exact hw _ _ _ h (lv_sub hl [2, 3, 1, 0] rfl)

def wp_X6_addJob (b1 : Int32) (b2 : Int32) (z : St) (P : St → Prop) : Prop :=
  (((((5 : Int32)) ≤ (gI z 2213)) → P z) ∧ (¬ (((5 : Int32)) ≤ (gI z 2213)) → (vp_in (gI z 2213) 5 ∧ (∀ z2 : St, z2 = wR z 23 (upd (gF z 23) (gI z 2213).toNatClampNeg b1) → (vp_in (gI z2 2213) 5 ∧ (∀ z3 : St, z3 = wR z2 24 (upd (gF z2 24) (gI z2 2213).toNatClampNeg b2) → (∀ z4 : St, z4 = wI z3 2213 ((gI z3 2213) + ((1 : Int32))) → P z4)))))))
set_option maxHeartbeats 4000000 in
set_option maxRecDepth 100000 in
theorem m_X6_addJob (l : Launch) (D : va_G) (t : Ty3) (a : Nat → Nat) (b1 : Int32) (b2 : Int32) (z : St) (P : St → Prop) (hw : wp_X6_addJob b1 b2 z P) : CtV l D t yX6_addJob cX6_addJob 3 none 0 (wX t a) (wX t a z) [.ref (a 22), .int b1, .int b2] P := by
  refine ctV_of (by decide) (Nat.le_of_ble_eq_true rfl) ?_
  intro p e s m args below meth c A ls C hr hlk h hl
  have hl : lv_has ls 3 [(0, .ref (a 22)), (1, .int b1), (2, .int b2)] := hl
  unfold wp_X6_addJob at hw
  refine lv_aload_n (pc := 0) C.1 C.2.1 dX6_addJob_0 rfl (lv_at hl 0 rfl) ?_
  refine GX_X6_54_22 (pc := 1) C h dX6_addJob_1 ?_
  refine lv_iconst (v := 5) (pc := 4) C.1 C.2.1 dX6_addJob_4 (by decide) ?_
  refine lv_icmp_ge (tgt := 38) (pc := 5) C.1 C.2.1 dX6_addJob_5 (by decide) (fun c1 => ?_) (fun c1 => ?_)
  · have hw := hw.1 c1
    exact rt_v (pc := 38) C hr hlk h hw dX6_addJob_38
  · have hw := hw.2 c1
    refine lv_aload_n (pc := 8) C.1 C.2.1 dX6_addJob_8 rfl (lv_at hl 0 rfl) ?_
    refine GX_X6_9_22 (pc := 9) C h dX6_addJob_9 ?_
    refine lv_aload_n (pc := 12) C.1 C.2.1 dX6_addJob_12 rfl (lv_at hl 0 rfl) ?_
    refine GX_X6_54_22 (pc := 13) C h dX6_addJob_13 ?_
    refine lv_iload_n (pc := 16) C.1 C.2.1 dX6_addJob_16 rfl (lv_at hl 1 rfl) ?_
    refine stX_23 (pc := 17) C h hw.1 dX6_addJob_17 (fun z2 ez2 H locs h => ?_)
    have hw := hw.2 z2 ez2
    refine lv_aload_n (pc := 18) C.1 C.2.1 dX6_addJob_18 rfl (lv_at hl 0 rfl) ?_
    refine GX_X6_15_22 (pc := 19) C h dX6_addJob_19 ?_
    refine lv_aload_n (pc := 22) C.1 C.2.1 dX6_addJob_22 rfl (lv_at hl 0 rfl) ?_
    refine GX_X6_54_22 (pc := 23) C h dX6_addJob_23 ?_
    refine lv_iload_n (pc := 26) C.1 C.2.1 dX6_addJob_26 rfl (lv_at hl 2 rfl) ?_
    refine stX_24 (pc := 27) C h hw.1 dX6_addJob_27 (fun z3 ez3 H locs h => ?_)
    have hw := hw.2 z3 ez3
    refine lv_aload_n (pc := 28) C.1 C.2.1 dX6_addJob_28 rfl (lv_at hl 0 rfl) ?_
    refine lv_dup (pc := 29) C.1 C.2.1 dX6_addJob_29 rfl ?_
    refine GX_X6_54_22 (pc := 30) C h dX6_addJob_30 ?_
    refine lv_iconst (v := 1) (pc := 33) C.1 C.2.1 dX6_addJob_33 (by decide) ?_
    refine lv_iadd (pc := 34) C.1 C.2.1 dX6_addJob_34 ?_
    refine PX_X6_54_22 (pc := 35) C h dX6_addJob_35 (fun z4 ez4 H locs h => ?_)
    have hw := hw z4 ez4
    exact rt_v (pc := 38) C hr hlk h hw dX6_addJob_38

def wp_X2_planTogether  (z : St) (P : Int32 → St → Prop) : Prop :=
  (wp_X6_clear z (fun z1 => (∀ K4 : Int32 → St → Prop, (∀ (v3 : Int32) (z5 : St), ((((gI z5 1308) ≤ v3) → (∀ K8 : Int32 → St → Prop, (∀ (v7 : Int32) (z9 : St), ((((gI z9 2213) ≤ v7) → (wp_X6_prepare_34 z9 (fun r12 z11 => (∀ K14 : Int32 → St → Prop, (∀ (s13 : Int32) (z15 : St), (∀ K17 : Int32 → St → Prop, (∀ (v16 : Int32) (z18 : St), ((((gI z18 2213) ≤ v16) → ((s13 = 0 ∨ s13 = 1) ∧ P s13 z18)) ∧ (¬ ((gI z18 2213) ≤ v16) → (vp_in v16 5 ∧ (∀ x20 : Int32, x20 = gF z18 23 v16.toNatClampNeg → (∀ K22 : Int32 → Prop, (∀ (s21 : Int32), (∀ K23 : St → Prop, (∀ (z24 : St), (∀ x25 : Int32, x25 = v16 + (1) → K17 x25 z24) → K23 z24) → (((s21 = ((-1 : Int32))) → K23 z18) ∧ (¬ (s21 = ((-1 : Int32))) → (wp_X1_plan x20 s21 z18 (fun z27 => K23 z27))))) → K22 s21) → (((s13 = 0) → (vp_in v16 5 ∧ K22 (gF z18 24 v16.toNatClampNeg))) ∧ (¬ (s13 = 0) → (vp_in x20 16 ∧ (vp_in v16 5 ∧ K22 ((gF z18 15 x20.toNatClampNeg) + (gF z18 33 v16.toNatClampNeg))))))))))) → K17 v16 z18) → K17 ((0 : Int32)) z15) → K14 s13 z15) → (∀ K30 : St → Prop, (∀ (z31 : St), K14 ((0 : Int32)) z31 → K30 z31) → (((r12 = 0) → K30 z11) ∧ (¬ (r12 = 0) → (wp_X6_walkTwice z11 (fun r34 z33 => (((r34 = 0) → K30 z33) ∧ (¬ (r34 = 0) → K14 ((1 : Int32)) z33))))))))))) ∧ (¬ ((gI z9 2213) ≤ v7) → (wp_X2_offerHours v7 z9 (fun z36 => (∀ x38 : Int32, x38 = v7 + (1) → K8 x38 z36))))) → K8 v7 z9) → K8 ((0 : Int32)) z5)) ∧ (¬ ((gI z5 1308) ≤ v3) → (vp_in v3 16 ∧ (∀ K39 : St → Prop, (∀ (z40 : St), (∀ x41 : Int32, x41 = v3 + (1) → K4 x41 z40) → K39 z40) → ((((gF z5 19 v3.toNatClampNeg) = ((2 : Int32))) → K39 z5) ∧ (¬ ((gF z5 19 v3.toNatClampNeg) = ((2 : Int32))) → (vp_in v3 16 ∧ (wp_X6_addJob v3 (gF z5 20 v3.toNatClampNeg) z5 (fun z43 => (wp_X1_reopen v3 z43 (fun z45 => K39 z45))))))))))) → K4 v3 z5) → K4 ((0 : Int32)) z1)))
set_option maxHeartbeats 4000000 in
set_option maxRecDepth 100000 in
theorem m_X2_planTogether (l : Launch) (D : va_G) (t : Ty3) (a : Nat → Nat)  (z : St) (P : Int32 → St → Prop) (hw : wp_X2_planTogether z P) : CtI l D t yX2_planTogether cX2_planTogether 5 (some .boolean) 62 (wX t a) (wX t a z) [.ref (a 21)] P := by
  refine ctI_of (by decide) (Nat.le_of_ble_eq_true rfl) ?_
  intro p e s m args below meth c A ls C hr hlk h hl
  have hl : lv_has ls 5 [(0, .ref (a 21))] := hl
  unfold wp_X2_planTogether at hw
  refine lv_aload_n (pc := 0) C.1 C.2.1 dX2_planTogether_0 rfl (lv_at hl 0 rfl) ?_
  refine GX_X2_24_21 (pc := 1) C h dX2_planTogether_1 ?_
  refine cl_vv (pc := 4) (As := []) (rest := []) C h (m_X6_clear l D t a z _ hw) mw_X6_clear lm_X2_108 md_X6_clear rcX_22 ⟨by decide, by decide⟩ ⟨Nat.zero_le _, Nat.zero_le _⟩ hl.1 rfl (Nat.le_of_ble_eq_true rfl) dX2_planTogether_4 (fun z1 H locs hw h => ?_)
  refine lv_iconst (v := 0) (pc := 7) C.1 C.2.1 dX2_planTogether_7 (by decide) ?_
  have hw := hw (fun (v3 : Int32) (z5 : St) => ∀ (H : Heap) (locs : List Loc) (ls : Array Slot), wd D t A s (wX t a z5) H locs → lv_has ls 5 [(0, .ref (a 21)), (1, .int v3)] → W p l e (rmd 62) s m args below meth c H locs 0 0 (QI D t A (wX t a) P below args s) (F0 m 9 ls [])) (by
      intro v3 z5 hw H locs ls h hl
      refine lv_iload_n (pc := 9) C.1 C.2.1 dX2_planTogether_9 rfl (lv_at hl 1 rfl) ?_
      refine lv_aload_n (pc := 10) C.1 C.2.1 dX2_planTogether_10 rfl (lv_at hl 0 rfl) ?_
      refine GX_X2_15_21 (pc := 11) C h dX2_planTogether_11 ?_
      refine GX_X2_86_13 (pc := 14) C h dX2_planTogether_14 ?_
      refine lv_icmp_ge (tgt := 64) (pc := 17) C.1 C.2.1 dX2_planTogether_17 (by decide) (fun c6 => ?_) (fun c6 => ?_)
      · have hw := hw.1 c6
        refine lv_iconst (v := 0) (pc := 64) C.1 C.2.1 dX2_planTogether_64 (by decide) ?_
        have hw := hw (fun (v7 : Int32) (z9 : St) => ∀ (H : Heap) (locs : List Loc) (ls : Array Slot), wd D t A s (wX t a z9) H locs → lv_has ls 5 [(0, .ref (a 21)), (1, .int v7)] → W p l e (rmd 62) s m args below meth c H locs 0 0 (QI D t A (wX t a) P below args s) (F0 m 66 ls [])) (by
            intro v7 z9 hw H locs ls h hl
            refine lv_iload_n (pc := 66) C.1 C.2.1 dX2_planTogether_66 rfl (lv_at hl 1 rfl) ?_
            refine lv_aload_n (pc := 67) C.1 C.2.1 dX2_planTogether_67 rfl (lv_at hl 0 rfl) ?_
            refine GX_X2_24_21 (pc := 68) C h dX2_planTogether_68 ?_
            refine GX_X2_114_22 (pc := 71) C h dX2_planTogether_71 ?_
            refine lv_icmp_ge (tgt := 88) (pc := 74) C.1 C.2.1 dX2_planTogether_74 (by decide) (fun c10 => ?_) (fun c10 => ?_)
            · have hw := hw.1 c10
              refine lv_aload_n (pc := 88) C.1 C.2.1 dX2_planTogether_88 rfl (lv_at hl 0 rfl) ?_
              refine GX_X2_24_21 (pc := 89) C h dX2_planTogether_89 ?_
              refine lv_aload_n (pc := 92) C.1 C.2.1 dX2_planTogether_92 rfl (lv_at hl 0 rfl) ?_
              refine GX_X2_31_21 (pc := 93) C h dX2_planTogether_93 ?_
              refine cl_vi (pc := 96) (As := [.ref (a 34)]) (rest := []) C h (m_X6_prepare_34 l D t a z9 _ hw) mw_X6_prepare lm_X2_118 md_X6_prepare rcX_22 ⟨by decide, by decide⟩ ⟨Nat.zero_le _, Nat.zero_le _⟩ hl.1 rfl (Nat.le_of_ble_eq_true rfl) dX2_planTogether_96 (fun r12 z11 H locs hw h => ?_)
              have hw := hw (fun (s13 : Int32) (z15 : St) => ∀ (H : Heap) (locs : List Loc) (ls : Array Slot), wd D t A s (wX t a z15) H locs → lv_has ls 5 [(0, .ref (a 21))] → W p l e (rmd 62) s m args below meth c H locs 0 0 (QI D t A (wX t a) P below args s) (F0 m 117 ls [.int s13])) (by
                  intro s13 z15 hw H locs ls h hl
                  refine lv_istore_n (lv' := [(1, .int s13), (0, .ref (a 21))]) (pc := 117) C.1 C.2.1 dX2_planTogether_117 rfl hl (by decide) rfl (fun ls hl => ?_)
                  refine lv_iconst (v := 0) (pc := 118) C.1 C.2.1 dX2_planTogether_118 (by decide) ?_
                  have hw := hw (fun (v16 : Int32) (z18 : St) => ∀ (H : Heap) (locs : List Loc) (ls : Array Slot), wd D t A s (wX t a z18) H locs → lv_has ls 5 [(0, .ref (a 21)), (1, .int s13), (2, .int v16)] → W p l e (rmd 62) s m args below meth c H locs 0 0 (QI D t A (wX t a) P below args s) (F0 m 120 ls [])) (by
                      intro v16 z18 hw H locs ls h hl
                      refine lv_iload_n (pc := 120) C.1 C.2.1 dX2_planTogether_120 rfl (lv_at hl 2 rfl) ?_
                      refine lv_aload_n (pc := 121) C.1 C.2.1 dX2_planTogether_121 rfl (lv_at hl 0 rfl) ?_
                      refine GX_X2_24_21 (pc := 122) C h dX2_planTogether_122 ?_
                      refine GX_X2_114_22 (pc := 125) C h dX2_planTogether_125 ?_
                      refine lv_icmp_ge (tgt := 200) (pc := 128) C.1 C.2.1 dX2_planTogether_128 (by decide) (fun c19 => ?_) (fun c19 => ?_)
                      · have hw := hw.1 c19
                        refine lv_iload_n (pc := 200) C.1 C.2.1 dX2_planTogether_200 rfl (lv_at hl 1 rfl) ?_
                        exact rt_z (pc := 201) C hr hlk h hw.1 hw.2 dX2_planTogether_201
                      · have hw := hw.2 c19
                        refine lv_aload_n (pc := 131) C.1 C.2.1 dX2_planTogether_131 rfl (lv_at hl 0 rfl) ?_
                        refine GX_X2_24_21 (pc := 132) C h dX2_planTogether_132 ?_
                        refine GX_X2_126_22 (pc := 135) C h dX2_planTogether_135 ?_
                        refine lv_iload_n (pc := 138) C.1 C.2.1 dX2_planTogether_138 rfl (lv_at hl 2 rfl) ?_
                        refine ldX_23 (pc := 139) C h hw.1 dX2_planTogether_139 ?_
                        have hw := hw.2
                        refine lv_topi (fun x20 ex20 => ?_)
                        have hw := hw x20 ex20
                        refine lv_istore_n (lv' := [(3, .int x20), (0, .ref (a 21)), (1, .int s13), (2, .int v16)]) (pc := 140) C.1 C.2.1 dX2_planTogether_140 rfl hl (by decide) rfl (fun ls hl => ?_)
                        refine lv_iload_n (pc := 141) C.1 C.2.1 dX2_planTogether_141 rfl (lv_at hl 2 rfl) ?_
                        have hw := hw (fun (s21 : Int32) => ∀ (H : Heap) (locs : List Loc) (ls : Array Slot), wd D t A s (wX t a z18) H locs → lv_has ls 5 [(0, .ref (a 21)), (1, .int s13), (2, .int v16), (3, .int x20)] → W p l e (rmd 62) s m args below meth c H locs 0 0 (QI D t A (wX t a) P below args s) (F0 m 176 ls [.int s21])) (by
                            intro s21 hw H locs ls h hl
                            refine lv_istore (lv' := [(4, .int s21), (0, .ref (a 21)), (1, .int s13), (2, .int v16), (3, .int x20)]) (pc := 176) C.1 C.2.1 dX2_planTogether_176 hl (by decide) rfl (fun ls hl => ?_)
                            refine lv_iload (pc := 178) C.1 C.2.1 dX2_planTogether_178 (lv_at hl 0 rfl) ?_
                            refine lv_iconst (v := -1) (pc := 180) C.1 C.2.1 dX2_planTogether_180 (by decide) ?_
                            have hw := hw (fun (z24 : St) => ∀ (H : Heap) (locs : List Loc) (ls : Array Slot), wd D t A s (wX t a z24) H locs → lv_has ls 5 [(0, .ref (a 21)), (1, .int s13), (2, .int v16)] → W p l e (rmd 62) s m args below meth c H locs 0 0 (QI D t A (wX t a) P below args s) (F0 m 194 ls [])) (by
                                intro z24 hw H locs ls h hl
                                obtain ⟨x25, ex25⟩ : ∃ y : Int32, y = v16 + (1) := ⟨_, rfl⟩
                                have hw := hw x25 ex25
                                refine lv_iinc (v := x25) (lv' := [(2, .int x25), (0, .ref (a 21)), (1, .int s13)]) (pc := 194) C.1 C.2.1 dX2_planTogether_194 hl (k := 2) rfl (by rw [ex25]; rfl) (by decide) rfl (fun ls hl => ?_)
                                refine lv_goto (tgt := 120) (pc := 197) C.1 C.2.1 dX2_planTogether_197 (by decide) ?_
                                exact hw _ _ _ h (lv_sub hl [1, 2, 0] rfl))
                            refine lv_icmp_eq (tgt := 194) (pc := 181) C.1 C.2.1 dX2_planTogether_181 (by decide) (fun c26 => ?_) (fun c26 => ?_)
                            · have hw := hw.1 c26
                              exact hw _ _ _ h (lv_sub hl [1, 2, 3] rfl)
                            · have hw := hw.2 c26
                              refine lv_aload_n (pc := 184) C.1 C.2.1 dX2_planTogether_184 rfl (lv_at hl 1 rfl) ?_
                              refine GX_X2_15_21 (pc := 185) C h dX2_planTogether_185 ?_
                              refine lv_iload_n (pc := 188) C.1 C.2.1 dX2_planTogether_188 rfl (lv_at hl 4 rfl) ?_
                              refine lv_iload (pc := 189) C.1 C.2.1 dX2_planTogether_189 (lv_at hl 0 rfl) ?_
                              refine cl_vv (pc := 191) (As := [.int x20, .int s21]) (rest := []) C h (m_X1_plan l D t a x20 s21 z18 _ hw) mw_X1_plan lm_X2_53 md_X1_plan rcX_13 ⟨by decide, by decide⟩ ⟨Nat.zero_le _, Nat.zero_le _⟩ hl.1 rfl (Nat.le_of_ble_eq_true rfl) dX2_planTogether_191 (fun z27 H locs hw h => ?_)
                              exact hw _ _ _ h (lv_sub hl [1, 2, 3] rfl))
                        refine lv_if_eq (tgt := 167) (pc := 142) C.1 C.2.1 dX2_planTogether_142 (by decide) (fun c29 => ?_) (fun c29 => ?_)
                        · have hw := hw.1 c29
                          refine lv_aload_n (pc := 167) C.1 C.2.1 dX2_planTogether_167 rfl (lv_at hl 1 rfl) ?_
                          refine GX_X2_24_21 (pc := 168) C h dX2_planTogether_168 ?_
                          refine GX_X2_132_22 (pc := 171) C h dX2_planTogether_171 ?_
                          refine lv_iload_n (pc := 174) C.1 C.2.1 dX2_planTogether_174 rfl (lv_at hl 3 rfl) ?_
                          refine ldX_24 (pc := 175) C h hw.1 dX2_planTogether_175 ?_
                          have hw := hw.2
                          exact hw _ _ _ h (lv_sub hl [1, 2, 3, 0] rfl)
                        · have hw := hw.2 c29
                          refine lv_aload_n (pc := 145) C.1 C.2.1 dX2_planTogether_145 rfl (lv_at hl 1 rfl) ?_
                          refine GX_X2_15_21 (pc := 146) C h dX2_planTogether_146 ?_
                          refine GX_X2_60_13 (pc := 149) C h dX2_planTogether_149 ?_
                          refine lv_iload_n (pc := 152) C.1 C.2.1 dX2_planTogether_152 rfl (lv_at hl 0 rfl) ?_
                          refine ldX_15 (pc := 153) C h hw.1 dX2_planTogether_153 ?_
                          have hw := hw.2
                          refine lv_aload_n (pc := 154) C.1 C.2.1 dX2_planTogether_154 rfl (lv_at hl 1 rfl) ?_
                          refine GX_X2_24_21 (pc := 155) C h dX2_planTogether_155 ?_
                          refine GX_X2_129_22 (pc := 158) C h dX2_planTogether_158 ?_
                          refine lv_iload_n (pc := 161) C.1 C.2.1 dX2_planTogether_161 rfl (lv_at hl 3 rfl) ?_
                          refine ldX_33 (pc := 162) C h hw.1 dX2_planTogether_162 ?_
                          have hw := hw.2
                          refine lv_iadd (pc := 163) C.1 C.2.1 dX2_planTogether_163 ?_
                          refine lv_goto (tgt := 176) (pc := 164) C.1 C.2.1 dX2_planTogether_164 (by decide) ?_
                          exact hw _ _ _ h (lv_sub hl [1, 2, 3, 0] rfl))
                  refine lv_istore_n (lv' := [(2, .int ((0 : Int32))), (1, .int s13), (0, .ref (a 21))]) (pc := 119) C.1 C.2.1 dX2_planTogether_119 rfl hl (by decide) rfl (fun ls hl => ?_)
                  exact hw _ _ _ h (lv_sub hl [2, 1, 0] rfl))
              have hw := hw (fun (z31 : St) => ∀ (H : Heap) (locs : List Loc) (ls : Array Slot), wd D t A s (wX t a z31) H locs → lv_has ls 5 [(0, .ref (a 21))] → W p l e (rmd 62) s m args below meth c H locs 0 0 (QI D t A (wX t a) P below args s) (F0 m 116 ls [])) (by
                  intro z31 hw H locs ls h hl
                  refine lv_iconst (v := 0) (pc := 116) C.1 C.2.1 dX2_planTogether_116 (by decide) ?_
                  exact hw _ _ _ h (lv_sub hl [0] rfl))
              refine lv_if_eq (tgt := 116) (pc := 99) C.1 C.2.1 dX2_planTogether_99 (by decide) (fun c32 => ?_) (fun c32 => ?_)
              · have hw := hw.1 c32
                exact hw _ _ _ h (lv_sub hl [0] rfl)
              · have hw := hw.2 c32
                refine lv_aload_n (pc := 102) C.1 C.2.1 dX2_planTogether_102 rfl (lv_at hl 0 rfl) ?_
                refine GX_X2_24_21 (pc := 103) C h dX2_planTogether_103 ?_
                refine cl_vi (pc := 106) (As := []) (rest := []) C h (m_X6_walkTwice l D t a z11 _ hw) mw_X6_walkTwice lm_X2_122 md_X6_walkTwice rcX_22 ⟨by decide, by decide⟩ ⟨Nat.zero_le _, Nat.zero_le _⟩ hl.1 rfl (Nat.le_of_ble_eq_true rfl) dX2_planTogether_106 (fun r34 z33 H locs hw h => ?_)
                refine lv_if_eq (tgt := 116) (pc := 109) C.1 C.2.1 dX2_planTogether_109 (by decide) (fun c35 => ?_) (fun c35 => ?_)
                · have hw := hw.1 c35
                  exact hw _ _ _ h (lv_sub hl [0] rfl)
                · have hw := hw.2 c35
                  refine lv_iconst (v := 1) (pc := 112) C.1 C.2.1 dX2_planTogether_112 (by decide) ?_
                  refine lv_goto (tgt := 117) (pc := 113) C.1 C.2.1 dX2_planTogether_113 (by decide) ?_
                  exact hw _ _ _ h (lv_sub hl [0] rfl)
            · have hw := hw.2 c10
              refine lv_aload_n (pc := 77) C.1 C.2.1 dX2_planTogether_77 rfl (lv_at hl 0 rfl) ?_
              refine lv_iload_n (pc := 78) C.1 C.2.1 dX2_planTogether_78 rfl (lv_at hl 1 rfl) ?_
              refine cl_vv (pc := 79) (As := [.int v7]) (rest := []) C h (m_X2_offerHours l D t a v7 z9 _ hw) mw_X2_offerHours lm_X2_115 md_X2_offerHours rcX_21 ⟨by decide, by decide⟩ ⟨Nat.zero_le _, Nat.zero_le _⟩ hl.1 rfl (Nat.le_of_ble_eq_true rfl) dX2_planTogether_79 (fun z36 H locs hw h => ?_)
              obtain ⟨x38, ex38⟩ : ∃ y : Int32, y = v7 + (1) := ⟨_, rfl⟩
              have hw := hw x38 ex38
              refine lv_iinc (v := x38) (lv' := [(1, .int x38), (0, .ref (a 21))]) (pc := 82) C.1 C.2.1 dX2_planTogether_82 hl (k := 1) rfl (by rw [ex38]; rfl) (by decide) rfl (fun ls hl => ?_)
              refine lv_goto (tgt := 66) (pc := 85) C.1 C.2.1 dX2_planTogether_85 (by decide) ?_
              exact hw _ _ _ h (lv_sub hl [1, 0] rfl))
        refine lv_istore_n (lv' := [(1, .int ((0 : Int32))), (0, .ref (a 21))]) (pc := 65) C.1 C.2.1 dX2_planTogether_65 rfl hl (by decide) rfl (fun ls hl => ?_)
        exact hw _ _ _ h (lv_sub hl [1, 0] rfl)
      · have hw := hw.2 c6
        refine lv_aload_n (pc := 20) C.1 C.2.1 dX2_planTogether_20 rfl (lv_at hl 0 rfl) ?_
        refine GX_X2_15_21 (pc := 21) C h dX2_planTogether_21 ?_
        refine GX_X2_89_13 (pc := 24) C h dX2_planTogether_24 ?_
        refine lv_iload_n (pc := 27) C.1 C.2.1 dX2_planTogether_27 rfl (lv_at hl 1 rfl) ?_
        refine ldX_19 (pc := 28) C h hw.1 dX2_planTogether_28 ?_
        have hw := hw.2
        refine lv_iconst (v := 2) (pc := 29) C.1 C.2.1 dX2_planTogether_29 (by decide) ?_
        have hw := hw (fun (z40 : St) => ∀ (H : Heap) (locs : List Loc) (ls : Array Slot), wd D t A s (wX t a z40) H locs → lv_has ls 5 [(0, .ref (a 21)), (1, .int v3)] → W p l e (rmd 62) s m args below meth c H locs 0 0 (QI D t A (wX t a) P below args s) (F0 m 58 ls [])) (by
            intro z40 hw H locs ls h hl
            obtain ⟨x41, ex41⟩ : ∃ y : Int32, y = v3 + (1) := ⟨_, rfl⟩
            have hw := hw x41 ex41
            refine lv_iinc (v := x41) (lv' := [(1, .int x41), (0, .ref (a 21))]) (pc := 58) C.1 C.2.1 dX2_planTogether_58 hl (k := 1) rfl (by rw [ex41]; rfl) (by decide) rfl (fun ls hl => ?_)
            refine lv_goto (tgt := 9) (pc := 61) C.1 C.2.1 dX2_planTogether_61 (by decide) ?_
            exact hw _ _ _ h (lv_sub hl [1, 0] rfl))
        refine lv_icmp_eq (tgt := 58) (pc := 30) C.1 C.2.1 dX2_planTogether_30 (by decide) (fun c42 => ?_) (fun c42 => ?_)
        · have hw := hw.1 c42
          exact hw _ _ _ h (lv_sub hl [0, 1] rfl)
        · have hw := hw.2 c42
          refine lv_aload_n (pc := 33) C.1 C.2.1 dX2_planTogether_33 rfl (lv_at hl 0 rfl) ?_
          refine GX_X2_24_21 (pc := 34) C h dX2_planTogether_34 ?_
          refine lv_iload_n (pc := 37) C.1 C.2.1 dX2_planTogether_37 rfl (lv_at hl 1 rfl) ?_
          refine lv_aload_n (pc := 38) C.1 C.2.1 dX2_planTogether_38 rfl (lv_at hl 0 rfl) ?_
          refine GX_X2_15_21 (pc := 39) C h dX2_planTogether_39 ?_
          refine GX_X2_39_13 (pc := 42) C h dX2_planTogether_42 ?_
          refine lv_iload_n (pc := 45) C.1 C.2.1 dX2_planTogether_45 rfl (lv_at hl 1 rfl) ?_
          refine ldX_20 (pc := 46) C h hw.1 dX2_planTogether_46 ?_
          have hw := hw.2
          refine cl_vv (pc := 47) (As := [.int v3, .int (gF z5 20 v3.toNatClampNeg)]) (rest := []) C h (m_X6_addJob l D t a v3 (gF z5 20 v3.toNatClampNeg) z5 _ hw) mw_X6_addJob lm_X2_111 md_X6_addJob rcX_22 ⟨by decide, by decide⟩ ⟨Nat.zero_le _, Nat.zero_le _⟩ hl.1 rfl (Nat.le_of_ble_eq_true rfl) dX2_planTogether_47 (fun z43 H locs hw h => ?_)
          refine lv_aload_n (pc := 50) C.1 C.2.1 dX2_planTogether_50 rfl (lv_at hl 0 rfl) ?_
          refine GX_X2_15_21 (pc := 51) C h dX2_planTogether_51 ?_
          refine lv_iload_n (pc := 54) C.1 C.2.1 dX2_planTogether_54 rfl (lv_at hl 1 rfl) ?_
          refine cl_vv (pc := 55) (As := [.int v3]) (rest := []) C h (m_X1_reopen l D t a v3 z43 _ hw) mw_X1_reopen lm_X2_45 md_X1_reopen rcX_13 ⟨by decide, by decide⟩ ⟨Nat.zero_le _, Nat.zero_le _⟩ hl.1 rfl (Nat.le_of_ble_eq_true rfl) dX2_planTogether_55 (fun z45 H locs hw h => ?_)
          exact hw _ _ _ h (lv_sub hl [0, 1] rfl))
  refine lv_istore_n (lv' := [(1, .int ((0 : Int32))), (0, .ref (a 21))]) (pc := 8) C.1 C.2.1 dX2_planTogether_8 rfl hl (by decide) rfl (fun ls hl => ?_)
  exact hw _ _ _ h (lv_sub hl [1, 0] rfl)

def wp_X8_whole  (z : St) (P : Int64 → St → Prop) : Prop :=
  (wp_X1_inState ((2 : Int32)) z (fun r2 => (((((gI z 1308) - r2) ≤ ((5 : Int32))) → (wp_X2_planTogether z (fun r5 z4 => (((¬ r5 = 0) → (wp_X8_accept ((0 : Int32)) z4 (fun r8 z7 => P (gJ z7 2214) z7))) ∧ (r5 = 0 → (wp_X8_refuse ((-6 : Int32)) z4 (fun r10 z9 => P (((-4000000000000000000 : Int64)) + (Int32.toInt64 r10)) z9))))))) ∧ (¬ (((gI z 1308) - r2) ≤ ((5 : Int32))) → (wp_X8_refuse ((-5 : Int32)) z (fun r12 z11 => P (((-4000000000000000000 : Int64)) + (Int32.toInt64 r12)) z11))))))
set_option maxHeartbeats 4000000 in
set_option maxRecDepth 100000 in
theorem m_X8_whole (l : Launch) (D : va_G) (t : Ty3) (a : Nat → Nat)  (z : St) (P : Int64 → St → Prop) (hw : wp_X8_whole z P) : CtL l D t yX8_whole cX8_whole 1 (some .long) 63 (wX t a) (wX t a z) [.ref (a 0)] P := by
  refine ctL_of (by decide) (Nat.le_of_ble_eq_true rfl) ?_
  intro p e s m args below meth c A ls C hr hlk h hl
  have hl : lv_has ls 1 [(0, .ref (a 0))] := hl
  unfold wp_X8_whole at hw
  refine lv_aload_n (pc := 0) C.1 C.2.1 dX8_whole_0 rfl (lv_at hl 0 rfl) ?_
  refine GX_X8_28_0 (pc := 1) C h dX8_whole_1 ?_
  refine GX_X8_134_13 (pc := 4) C h dX8_whole_4 ?_
  refine lv_aload_n (pc := 7) C.1 C.2.1 dX8_whole_7 rfl (lv_at hl 0 rfl) ?_
  refine GX_X8_28_0 (pc := 8) C h dX8_whole_8 ?_
  refine lv_iconst (v := 2) (pc := 11) C.1 C.2.1 dX8_whole_11 (by decide) ?_
  refine cl_vi (pc := 12) (As := [.int ((2 : Int32))]) (rest := [.int (gI z 1308)]) C h (m_X1_inState l D t a ((2 : Int32)) z _ hw) mw_X1_inState lm_X8_176 md_X1_inState rcX_13 ⟨by decide, by decide⟩ ⟨Nat.zero_le _, Nat.zero_le _⟩ hl.1 rfl (Nat.le_of_ble_eq_true rfl) dX8_whole_12 (fun r2 z1 H locs hw h => ?_)
  rw [hw.1] at h
  have hw := hw.2
  refine lv_isub (pc := 15) C.1 C.2.1 dX8_whole_15 ?_
  refine lv_iconst (v := 5) (pc := 16) C.1 C.2.1 dX8_whole_16 (by decide) ?_
  refine lv_icmp_le (tgt := 32) (pc := 17) C.1 C.2.1 dX8_whole_17 (by decide) (fun c3 => ?_) (fun c3 => ?_)
  · have hw := hw.1 c3
    refine lv_aload_n (pc := 32) C.1 C.2.1 dX8_whole_32 rfl (lv_at hl 0 rfl) ?_
    refine GX_X8_37_0 (pc := 33) C h dX8_whole_33 ?_
    refine cl_vi (pc := 36) (As := []) (rest := []) C h (m_X2_planTogether l D t a z _ hw) mw_X2_planTogether lm_X8_181 md_X2_planTogether rcX_21 ⟨by decide, by decide⟩ ⟨Nat.zero_le _, Nat.zero_le _⟩ hl.1 rfl (Nat.le_of_ble_eq_true rfl) dX8_whole_36 (fun r5 z4 H locs hw h => ?_)
    refine lv_if_ne (tgt := 54) (pc := 39) C.1 C.2.1 dX8_whole_39 (by decide) (fun c6 => ?_) (fun c6 => ?_)
    · have hw := hw.1 c6
      refine lv_aload_n (pc := 54) C.1 C.2.1 dX8_whole_54 rfl (lv_at hl 0 rfl) ?_
      refine lv_iconst (v := 0) (pc := 55) C.1 C.2.1 dX8_whole_55 (by decide) ?_
      refine cl_vi (pc := 56) (As := [.int ((0 : Int32))]) (rest := []) C h (m_X8_accept l D t a ((0 : Int32)) z4 _ hw) mw_X8_accept lm_X8_99 md_X8_accept rcX_0 ⟨by decide, by decide⟩ ⟨Nat.zero_le _, Nat.zero_le _⟩ hl.1 rfl (Nat.le_of_ble_eq_true rfl) dX8_whole_56 (fun r8 z7 H locs hw h => ?_)
      refine lv_pop (pc := 59) C.1 C.2.1 dX8_whole_59 rfl ?_
      refine lv_aload_n (pc := 60) C.1 C.2.1 dX8_whole_60 rfl (lv_at hl 0 rfl) ?_
      refine GX_X8_37_0 (pc := 61) C h dX8_whole_61 ?_
      refine GX_X8_185_21 (pc := 64) C h dX8_whole_64 ?_
      refine GX_X8_189_22 (pc := 67) C h dX8_whole_67 ?_
      exact rt_l (pc := 70) C hr hlk h hw dX8_whole_70
    · have hw := hw.2 c6
      refine lv_ldc2 (pc := 42) C.1 C.2.1 C.2.2.2.1 (C.2.2.2.2 _ lc_X8_179) dX8_whole_42 ?_
      refine lv_aload_n (pc := 45) C.1 C.2.1 dX8_whole_45 rfl (lv_at hl 0 rfl) ?_
      refine lv_bipush (v := -6) (pc := 46) C.1 C.2.1 dX8_whole_46 (by decide) ?_
      refine cl_vi (pc := 48) (As := [.int ((-6 : Int32))]) (rest := [.long ((-4000000000000000000 : Int64))]) C h (m_X8_refuse l D t a ((-6 : Int32)) z4 _ hw) mw_X8_refuse lm_X8_81 md_X8_refuse rcX_0 ⟨by decide, by decide⟩ ⟨Nat.zero_le _, Nat.zero_le _⟩ hl.1 rfl (Nat.le_of_ble_eq_true rfl) dX8_whole_48 (fun r10 z9 H locs hw h => ?_)
      refine lv_i2l (pc := 51) C.1 C.2.1 dX8_whole_51 rfl ?_
      refine lv_ladd (pc := 52) C.1 C.2.1 dX8_whole_52 ?_
      exact rt_l (pc := 53) C hr hlk h hw dX8_whole_53
  · have hw := hw.2 c3
    refine lv_ldc2 (pc := 20) C.1 C.2.1 C.2.2.2.1 (C.2.2.2.2 _ lc_X8_179) dX8_whole_20 ?_
    refine lv_aload_n (pc := 23) C.1 C.2.1 dX8_whole_23 rfl (lv_at hl 0 rfl) ?_
    refine lv_bipush (v := -5) (pc := 24) C.1 C.2.1 dX8_whole_24 (by decide) ?_
    refine cl_vi (pc := 26) (As := [.int ((-5 : Int32))]) (rest := [.long ((-4000000000000000000 : Int64))]) C h (m_X8_refuse l D t a ((-5 : Int32)) z _ hw) mw_X8_refuse lm_X8_81 md_X8_refuse rcX_0 ⟨by decide, by decide⟩ ⟨Nat.zero_le _, Nat.zero_le _⟩ hl.1 rfl (Nat.le_of_ble_eq_true rfl) dX8_whole_26 (fun r12 z11 H locs hw h => ?_)
    refine lv_i2l (pc := 29) C.1 C.2.1 dX8_whole_29 rfl ?_
    refine lv_ladd (pc := 30) C.1 C.2.1 dX8_whole_30 ?_
    exact rt_l (pc := 31) C hr hlk h hw dX8_whole_31

def wp_X2_cheapestHour (b1 : Int32) (z : St) (P : Int32 → Prop) : Prop :=
  (vp_in b1 16 ∧ (∀ K4 : Int32 → Int64 → Int32 → Prop, (∀ (v1 : Int32) (v2 : Int64) (v3 : Int32), (vp_in b1 16 ∧ ((((gF z 16 b1.toNatClampNeg) < v3) → P v1) ∧ (¬ ((gF z 16 b1.toNatClampNeg) < v3) → (wp_X2_mayBegin b1 v3 z (fun r7 => (∀ K10 : Int32 → Int64 → Prop, (∀ (v8 : Int32) (v9 : Int64), (∀ x11 : Int32, x11 = v3 + (1) → K4 v8 v9 x11) → K10 v8 v9) → (((r7 = 0) → K10 v1 v2) ∧ (¬ (r7 = 0) → (wp_X1_costFrom_5 b1 v3 z (fun r14 => (((0 ≤ (lg_cmp r14 v2)) → K10 v1 v2) ∧ (¬ (0 ≤ (lg_cmp r14 v2)) → K10 v3 r14)))))))))))) → K4 v1 v2 v3) → (∀ x16 : Int32, x16 = gF z 15 b1.toNatClampNeg → K4 ((-1 : Int32)) ((1000000000000000000 : Int64)) x16)))
set_option maxHeartbeats 4000000 in
set_option maxRecDepth 100000 in
theorem m_X2_cheapestHour (l : Launch) (D : va_G) (t : Ty3) (a : Nat → Nat) (b1 : Int32) (z : St) (P : Int32 → Prop) (hw : wp_X2_cheapestHour b1 z P) : CtI l D t yX2_cheapestHour cX2_cheapestHour 8 (some .int) 4 (wX t a) (wX t a z) [.ref (a 21), .int b1] (fun rr zz => zz = z ∧ P rr) := by
  refine ctI_of (by decide) (Nat.le_of_ble_eq_true rfl) ?_
  intro p e s m args below meth c A ls C hr hlk h hl
  have hl : lv_has ls 8 [(0, .ref (a 21)), (1, .int b1)] := hl
  unfold wp_X2_cheapestHour at hw
  refine lv_iconst (v := -1) (pc := 0) C.1 C.2.1 dX2_cheapestHour_0 (by decide) ?_
  refine lv_istore_n (lv' := [(2, .int ((-1 : Int32))), (0, .ref (a 21)), (1, .int b1)]) (pc := 1) C.1 C.2.1 dX2_cheapestHour_1 rfl hl (by decide) rfl (fun ls hl => ?_)
  refine lv_ldc2 (pc := 2) C.1 C.2.1 C.2.2.2.1 (C.2.2.2.2 _ lc_X2_102) dX2_cheapestHour_2 ?_
  refine lv_lstore_n (lv' := [(3, .long ((1000000000000000000 : Int64))), (2, .int ((-1 : Int32))), (0, .ref (a 21)), (1, .int b1)]) (pc := 5) C.1 C.2.1 dX2_cheapestHour_5 rfl hl (by decide) rfl (fun ls hl => ?_)
  refine lv_aload_n (pc := 6) C.1 C.2.1 dX2_cheapestHour_6 rfl (lv_at hl 2 rfl) ?_
  refine GX_X2_15_21 (pc := 7) C h dX2_cheapestHour_7 ?_
  refine GX_X2_60_13 (pc := 10) C h dX2_cheapestHour_10 ?_
  refine lv_iload_n (pc := 13) C.1 C.2.1 dX2_cheapestHour_13 rfl (lv_at hl 3 rfl) ?_
  refine ldX_15 (pc := 14) C h hw.1 dX2_cheapestHour_14 ?_
  have hw := hw.2
  have hw := hw (fun (v1 : Int32) (v2 : Int64) (v3 : Int32) => ∀ (H : Heap) (locs : List Loc) (ls : Array Slot), wd D t A s (wX t a z) H locs → lv_has ls 8 [(0, .ref (a 21)), (1, .int b1), (2, .int v1), (3, .long v2), (5, .int v3)] → W p l e (rmd 4) s m args below meth c H locs 0 0 (QI D t A (wX t a) (fun rr zz => zz = z ∧ P rr) below args s) (F0 m 17 ls [])) (by
      intro v1 v2 v3 hw H locs ls h hl
      refine lv_iload (pc := 17) C.1 C.2.1 dX2_cheapestHour_17 (lv_at hl 4 rfl) ?_
      refine lv_aload_n (pc := 19) C.1 C.2.1 dX2_cheapestHour_19 rfl (lv_at hl 0 rfl) ?_
      refine GX_X2_15_21 (pc := 20) C h dX2_cheapestHour_20 ?_
      refine GX_X2_63_13 (pc := 23) C h dX2_cheapestHour_23 ?_
      refine lv_iload_n (pc := 26) C.1 C.2.1 dX2_cheapestHour_26 rfl (lv_at hl 1 rfl) ?_
      refine ldX_16 (pc := 27) C h hw.1 dX2_cheapestHour_27 ?_
      have hw := hw.2
      refine lv_icmp_gt (tgt := 79) (pc := 28) C.1 C.2.1 dX2_cheapestHour_28 (by decide) (fun c5 => ?_) (fun c5 => ?_)
      · have hw := hw.1 c5
        refine lv_iload_n (pc := 79) C.1 C.2.1 dX2_cheapestHour_79 rfl (lv_at hl 2 rfl) ?_
        exact rt_i (pc := 80) C hr hlk h ⟨rfl, hw⟩ dX2_cheapestHour_80
      · have hw := hw.2 c5
        refine lv_aload_n (pc := 31) C.1 C.2.1 dX2_cheapestHour_31 rfl (lv_at hl 0 rfl) ?_
        refine lv_iload_n (pc := 32) C.1 C.2.1 dX2_cheapestHour_32 rfl (lv_at hl 1 rfl) ?_
        refine lv_iload (pc := 33) C.1 C.2.1 dX2_cheapestHour_33 (lv_at hl 4 rfl) ?_
        refine cl_vi (pc := 35) (As := [.int b1, .int v3]) (rest := []) C h (m_X2_mayBegin l D t a b1 v3 z _ hw) mw_X2_mayBegin lm_X2_49 md_X2_mayBegin rcX_21 ⟨by decide, by decide⟩ ⟨Nat.zero_le _, Nat.zero_le _⟩ hl.1 rfl (Nat.le_of_ble_eq_true rfl) dX2_cheapestHour_35 (fun r7 z6 H locs hw h => ?_)
        rw [hw.1] at h
        have hw := hw.2
        have hw := hw (fun (v8 : Int32) (v9 : Int64) => ∀ (H : Heap) (locs : List Loc) (ls : Array Slot), wd D t A s (wX t a z) H locs → lv_has ls 8 [(0, .ref (a 21)), (1, .int b1), (2, .int v8), (3, .long v9), (5, .int v3)] → W p l e (rmd 4) s m args below meth c H locs 0 0 (QI D t A (wX t a) (fun rr zz => zz = z ∧ P rr) below args s) (F0 m 73 ls [])) (by
            intro v8 v9 hw H locs ls h hl
            obtain ⟨x11, ex11⟩ : ∃ y : Int32, y = v3 + (1) := ⟨_, rfl⟩
            have hw := hw x11 ex11
            refine lv_iinc (v := x11) (lv' := [(5, .int x11), (0, .ref (a 21)), (1, .int b1), (2, .int v8), (3, .long v9)]) (pc := 73) C.1 C.2.1 dX2_cheapestHour_73 hl (k := 4) rfl (by rw [ex11]; rfl) (by decide) rfl (fun ls hl => ?_)
            refine lv_goto (tgt := 17) (pc := 76) C.1 C.2.1 dX2_cheapestHour_76 (by decide) ?_
            exact hw _ _ _ h (lv_sub hl [1, 2, 3, 4, 0] rfl))
        refine lv_if_eq (tgt := 73) (pc := 38) C.1 C.2.1 dX2_cheapestHour_38 (by decide) (fun c12 => ?_) (fun c12 => ?_)
        · have hw := hw.1 c12
          exact hw _ _ _ h (lv_sub hl [0, 1, 2, 3, 4] rfl)
        · have hw := hw.2 c12
          refine lv_aload_n (pc := 41) C.1 C.2.1 dX2_cheapestHour_41 rfl (lv_at hl 0 rfl) ?_
          refine GX_X2_15_21 (pc := 42) C h dX2_cheapestHour_42 ?_
          refine lv_iload_n (pc := 45) C.1 C.2.1 dX2_cheapestHour_45 rfl (lv_at hl 1 rfl) ?_
          refine lv_iload (pc := 46) C.1 C.2.1 dX2_cheapestHour_46 (lv_at hl 4 rfl) ?_
          refine lv_aload_n (pc := 48) C.1 C.2.1 dX2_cheapestHour_48 rfl (lv_at hl 0 rfl) ?_
          refine GX_X2_9_21 (pc := 49) C h dX2_cheapestHour_49 ?_
          refine GX_X2_72_1 (pc := 52) C h dX2_cheapestHour_52 ?_
          refine cl_vl (pc := 55) (As := [.int b1, .int v3, .ref (a 5)]) (rest := []) C h (m_X1_costFrom_5 l D t a b1 v3 z _ hw) mw_X1_costFrom lm_X2_104 md_X1_costFrom rcX_13 ⟨by decide, by decide⟩ ⟨Nat.zero_le _, Nat.zero_le _⟩ hl.1 rfl (Nat.le_of_ble_eq_true rfl) dX2_cheapestHour_55 (fun r14 z13 H locs hw h => ?_)
          rw [hw.1] at h
          have hw := hw.2
          refine lv_lstore (lv' := [(6, .long r14), (0, .ref (a 21)), (1, .int b1), (2, .int v1), (3, .long v2), (5, .int v3)]) (pc := 58) C.1 C.2.1 dX2_cheapestHour_58 hl (by decide) rfl (fun ls hl => ?_)
          refine lv_lload (pc := 60) C.1 C.2.1 dX2_cheapestHour_60 (lv_at hl 0 rfl) ?_
          refine lv_lload_n (pc := 62) C.1 C.2.1 dX2_cheapestHour_62 rfl (lv_at hl 4 rfl) ?_
          refine W.lcmp (pc := 63) C.1 C.2.1 dX2_cheapestHour_63 ?_
          refine lv_if_ge (tgt := 73) (pc := 64) C.1 C.2.1 dX2_cheapestHour_64 (by decide) (fun c15 => ?_) (fun c15 => ?_)
          · have hw := hw.1 c15
            exact hw _ _ _ h (lv_sub hl [1, 2, 3, 4, 5] rfl)
          · have hw := hw.2 c15
            refine lv_lload (pc := 67) C.1 C.2.1 dX2_cheapestHour_67 (lv_at hl 0 rfl) ?_
            refine lv_lstore_n (lv' := [(3, .long r14), (6, .long r14), (0, .ref (a 21)), (1, .int b1), (2, .int v1), (5, .int v3)]) (pc := 69) C.1 C.2.1 dX2_cheapestHour_69 rfl hl (by decide) rfl (fun ls hl => ?_)
            refine lv_iload (pc := 70) C.1 C.2.1 dX2_cheapestHour_70 (lv_at hl 5 rfl) ?_
            refine lv_istore_n (lv' := [(2, .int v3), (3, .long r14), (6, .long r14), (0, .ref (a 21)), (1, .int b1), (5, .int v3)]) (pc := 72) C.1 C.2.1 dX2_cheapestHour_72 rfl hl (by decide) rfl (fun ls hl => ?_)
            exact hw _ _ _ h (lv_sub hl [3, 4, 0, 1, 5] rfl))
  refine lv_topi (fun x16 ex16 => ?_)
  have hw := hw x16 ex16
  refine lv_istore (lv' := [(5, .int x16), (3, .long ((1000000000000000000 : Int64))), (2, .int ((-1 : Int32))), (0, .ref (a 21)), (1, .int b1)]) (pc := 15) C.1 C.2.1 dX2_cheapestHour_15 hl (by decide) rfl (fun ls hl => ?_)
  exact hw _ _ _ h (lv_sub hl [3, 4, 2, 1, 0] rfl)

def wp_X2_planOneByOne  (z : St) (P : Int32 → St → Prop) : Prop :=
  (∀ K2 : Int32 → St → Prop, (∀ (v1 : Int32) (z3 : St), ((((gI z3 1308) ≤ v1) → (∀ K6 : Int32 → St → Prop, (∀ (v5 : Int32) (z7 : St), ((((gI z7 1308) ≤ v5) → (wp_X1_inState ((0 : Int32)) z7 (fun r10 => P r10 z7))) ∧ (¬ ((gI z7 1308) ≤ v5) → (vp_in v5 16 ∧ (∀ K12 : Int32 → Prop, (∀ (s11 : Int32), (∀ K13 : St → Prop, (∀ (z14 : St), (∀ x15 : Int32, x15 = v5 + (1) → K6 x15 z14) → K13 z14) → (((s11 = ((-1 : Int32))) → K13 z7) ∧ (¬ (s11 = ((-1 : Int32))) → (wp_X1_plan v5 s11 z7 (fun z17 => K13 z17))))) → K12 s11) → (((¬ (gF z7 19 v5.toNatClampNeg) = 0) → K12 ((-1 : Int32))) ∧ ((gF z7 19 v5.toNatClampNeg) = 0 → (wp_X2_cheapestHour v5 z7 (fun r21 => K12 r21)))))))) → K6 v5 z7) → K6 ((0 : Int32)) z3)) ∧ (¬ ((gI z3 1308) ≤ v1) → (wp_X1_reopen v1 z3 (fun z22 => (∀ x24 : Int32, x24 = v1 + (1) → K2 x24 z22))))) → K2 v1 z3) → K2 ((0 : Int32)) z)
set_option maxHeartbeats 4000000 in
set_option maxRecDepth 100000 in
theorem m_X2_planOneByOne (l : Launch) (D : va_G) (t : Ty3) (a : Nat → Nat)  (z : St) (P : Int32 → St → Prop) (hw : wp_X2_planOneByOne z P) : CtI l D t yX2_planOneByOne cX2_planOneByOne 3 (some .int) 5 (wX t a) (wX t a z) [.ref (a 21)] P := by
  refine ctI_of (by decide) (Nat.le_of_ble_eq_true rfl) ?_
  intro p e s m args below meth c A ls C hr hlk h hl
  have hl : lv_has ls 3 [(0, .ref (a 21))] := hl
  unfold wp_X2_planOneByOne at hw
  refine lv_iconst (v := 0) (pc := 0) C.1 C.2.1 dX2_planOneByOne_0 (by decide) ?_
  have hw := hw (fun (v1 : Int32) (z3 : St) => ∀ (H : Heap) (locs : List Loc) (ls : Array Slot), wd D t A s (wX t a z3) H locs → lv_has ls 3 [(0, .ref (a 21)), (1, .int v1)] → W p l e (rmd 5) s m args below meth c H locs 0 0 (QI D t A (wX t a) P below args s) (F0 m 2 ls [])) (by
      intro v1 z3 hw H locs ls h hl
      refine lv_iload_n (pc := 2) C.1 C.2.1 dX2_planOneByOne_2 rfl (lv_at hl 1 rfl) ?_
      refine lv_aload_n (pc := 3) C.1 C.2.1 dX2_planOneByOne_3 rfl (lv_at hl 0 rfl) ?_
      refine GX_X2_15_21 (pc := 4) C h dX2_planOneByOne_4 ?_
      refine GX_X2_86_13 (pc := 7) C h dX2_planOneByOne_7 ?_
      refine lv_icmp_ge (tgt := 27) (pc := 10) C.1 C.2.1 dX2_planOneByOne_10 (by decide) (fun c4 => ?_) (fun c4 => ?_)
      · have hw := hw.1 c4
        refine lv_iconst (v := 0) (pc := 27) C.1 C.2.1 dX2_planOneByOne_27 (by decide) ?_
        have hw := hw (fun (v5 : Int32) (z7 : St) => ∀ (H : Heap) (locs : List Loc) (ls : Array Slot), wd D t A s (wX t a z7) H locs → lv_has ls 3 [(0, .ref (a 21)), (1, .int v5)] → W p l e (rmd 5) s m args below meth c H locs 0 0 (QI D t A (wX t a) P below args s) (F0 m 29 ls [])) (by
            intro v5 z7 hw H locs ls h hl
            refine lv_iload_n (pc := 29) C.1 C.2.1 dX2_planOneByOne_29 rfl (lv_at hl 1 rfl) ?_
            refine lv_aload_n (pc := 30) C.1 C.2.1 dX2_planOneByOne_30 rfl (lv_at hl 0 rfl) ?_
            refine GX_X2_15_21 (pc := 31) C h dX2_planOneByOne_31 ?_
            refine GX_X2_86_13 (pc := 34) C h dX2_planOneByOne_34 ?_
            refine lv_icmp_ge (tgt := 82) (pc := 37) C.1 C.2.1 dX2_planOneByOne_37 (by decide) (fun c8 => ?_) (fun c8 => ?_)
            · have hw := hw.1 c8
              refine lv_aload_n (pc := 82) C.1 C.2.1 dX2_planOneByOne_82 rfl (lv_at hl 0 rfl) ?_
              refine GX_X2_15_21 (pc := 83) C h dX2_planOneByOne_83 ?_
              refine lv_iconst (v := 0) (pc := 86) C.1 C.2.1 dX2_planOneByOne_86 (by decide) ?_
              refine cl_vi (pc := 87) (As := [.int ((0 : Int32))]) (rest := []) C h (m_X1_inState l D t a ((0 : Int32)) z7 _ hw) mw_X1_inState lm_X2_99 md_X1_inState rcX_13 ⟨by decide, by decide⟩ ⟨Nat.zero_le _, Nat.zero_le _⟩ hl.1 rfl (Nat.le_of_ble_eq_true rfl) dX2_planOneByOne_87 (fun r10 z9 H locs hw h => ?_)
              rw [hw.1] at h
              have hw := hw.2
              exact rt_i (pc := 90) C hr hlk h hw dX2_planOneByOne_90
            · have hw := hw.2 c8
              refine lv_aload_n (pc := 40) C.1 C.2.1 dX2_planOneByOne_40 rfl (lv_at hl 0 rfl) ?_
              refine GX_X2_15_21 (pc := 41) C h dX2_planOneByOne_41 ?_
              refine GX_X2_89_13 (pc := 44) C h dX2_planOneByOne_44 ?_
              refine lv_iload_n (pc := 47) C.1 C.2.1 dX2_planOneByOne_47 rfl (lv_at hl 1 rfl) ?_
              refine ldX_19 (pc := 48) C h hw.1 dX2_planOneByOne_48 ?_
              have hw := hw.2
              have hw := hw (fun (s11 : Int32) => ∀ (H : Heap) (locs : List Loc) (ls : Array Slot), wd D t A s (wX t a z7) H locs → lv_has ls 3 [(0, .ref (a 21)), (1, .int v5)] → W p l e (rmd 5) s m args below meth c H locs 0 0 (QI D t A (wX t a) P below args s) (F0 m 61 ls [.int s11])) (by
                  intro s11 hw H locs ls h hl
                  refine lv_istore_n (lv' := [(2, .int s11), (0, .ref (a 21)), (1, .int v5)]) (pc := 61) C.1 C.2.1 dX2_planOneByOne_61 rfl hl (by decide) rfl (fun ls hl => ?_)
                  refine lv_iload_n (pc := 62) C.1 C.2.1 dX2_planOneByOne_62 rfl (lv_at hl 0 rfl) ?_
                  refine lv_iconst (v := -1) (pc := 63) C.1 C.2.1 dX2_planOneByOne_63 (by decide) ?_
                  have hw := hw (fun (z14 : St) => ∀ (H : Heap) (locs : List Loc) (ls : Array Slot), wd D t A s (wX t a z14) H locs → lv_has ls 3 [(0, .ref (a 21)), (1, .int v5)] → W p l e (rmd 5) s m args below meth c H locs 0 0 (QI D t A (wX t a) P below args s) (F0 m 76 ls [])) (by
                      intro z14 hw H locs ls h hl
                      obtain ⟨x15, ex15⟩ : ∃ y : Int32, y = v5 + (1) := ⟨_, rfl⟩
                      have hw := hw x15 ex15
                      refine lv_iinc (v := x15) (lv' := [(1, .int x15), (0, .ref (a 21))]) (pc := 76) C.1 C.2.1 dX2_planOneByOne_76 hl (k := 1) rfl (by rw [ex15]; rfl) (by decide) rfl (fun ls hl => ?_)
                      refine lv_goto (tgt := 29) (pc := 79) C.1 C.2.1 dX2_planOneByOne_79 (by decide) ?_
                      exact hw _ _ _ h (lv_sub hl [1, 0] rfl))
                  refine lv_icmp_eq (tgt := 76) (pc := 64) C.1 C.2.1 dX2_planOneByOne_64 (by decide) (fun c16 => ?_) (fun c16 => ?_)
                  · have hw := hw.1 c16
                    exact hw _ _ _ h (lv_sub hl [1, 2] rfl)
                  · have hw := hw.2 c16
                    refine lv_aload_n (pc := 67) C.1 C.2.1 dX2_planOneByOne_67 rfl (lv_at hl 1 rfl) ?_
                    refine GX_X2_15_21 (pc := 68) C h dX2_planOneByOne_68 ?_
                    refine lv_iload_n (pc := 71) C.1 C.2.1 dX2_planOneByOne_71 rfl (lv_at hl 2 rfl) ?_
                    refine lv_iload_n (pc := 72) C.1 C.2.1 dX2_planOneByOne_72 rfl (lv_at hl 0 rfl) ?_
                    refine cl_vv (pc := 73) (As := [.int v5, .int s11]) (rest := []) C h (m_X1_plan l D t a v5 s11 z7 _ hw) mw_X1_plan lm_X2_53 md_X1_plan rcX_13 ⟨by decide, by decide⟩ ⟨Nat.zero_le _, Nat.zero_le _⟩ hl.1 rfl (Nat.le_of_ble_eq_true rfl) dX2_planOneByOne_73 (fun z17 H locs hw h => ?_)
                    exact hw _ _ _ h (lv_sub hl [1, 2] rfl))
              refine lv_if_ne (tgt := 60) (pc := 49) C.1 C.2.1 dX2_planOneByOne_49 (by decide) (fun c19 => ?_) (fun c19 => ?_)
              · have hw := hw.1 c19
                refine lv_iconst (v := -1) (pc := 60) C.1 C.2.1 dX2_planOneByOne_60 (by decide) ?_
                exact hw _ _ _ h (lv_sub hl [0, 1] rfl)
              · have hw := hw.2 c19
                refine lv_aload_n (pc := 52) C.1 C.2.1 dX2_planOneByOne_52 rfl (lv_at hl 0 rfl) ?_
                refine lv_iload_n (pc := 53) C.1 C.2.1 dX2_planOneByOne_53 rfl (lv_at hl 1 rfl) ?_
                refine cl_vi (pc := 54) (As := [.int v5]) (rest := []) C h (m_X2_cheapestHour l D t a v5 z7 _ hw) mw_X2_cheapestHour lm_X2_95 md_X2_cheapestHour rcX_21 ⟨by decide, by decide⟩ ⟨Nat.zero_le _, Nat.zero_le _⟩ hl.1 rfl (Nat.le_of_ble_eq_true rfl) dX2_planOneByOne_54 (fun r21 z20 H locs hw h => ?_)
                rw [hw.1] at h
                have hw := hw.2
                refine lv_goto (tgt := 61) (pc := 57) C.1 C.2.1 dX2_planOneByOne_57 (by decide) ?_
                exact hw _ _ _ h (lv_sub hl [0, 1] rfl))
        refine lv_istore_n (lv' := [(1, .int ((0 : Int32))), (0, .ref (a 21))]) (pc := 28) C.1 C.2.1 dX2_planOneByOne_28 rfl hl (by decide) rfl (fun ls hl => ?_)
        exact hw _ _ _ h (lv_sub hl [1, 0] rfl)
      · have hw := hw.2 c4
        refine lv_aload_n (pc := 13) C.1 C.2.1 dX2_planOneByOne_13 rfl (lv_at hl 0 rfl) ?_
        refine GX_X2_15_21 (pc := 14) C h dX2_planOneByOne_14 ?_
        refine lv_iload_n (pc := 17) C.1 C.2.1 dX2_planOneByOne_17 rfl (lv_at hl 1 rfl) ?_
        refine cl_vv (pc := 18) (As := [.int v1]) (rest := []) C h (m_X1_reopen l D t a v1 z3 _ hw) mw_X1_reopen lm_X2_45 md_X1_reopen rcX_13 ⟨by decide, by decide⟩ ⟨Nat.zero_le _, Nat.zero_le _⟩ hl.1 rfl (Nat.le_of_ble_eq_true rfl) dX2_planOneByOne_18 (fun z22 H locs hw h => ?_)
        obtain ⟨x24, ex24⟩ : ∃ y : Int32, y = v1 + (1) := ⟨_, rfl⟩
        have hw := hw x24 ex24
        refine lv_iinc (v := x24) (lv' := [(1, .int x24), (0, .ref (a 21))]) (pc := 21) C.1 C.2.1 dX2_planOneByOne_21 hl (k := 1) rfl (by rw [ex24]; rfl) (by decide) rfl (fun ls hl => ?_)
        refine lv_goto (tgt := 2) (pc := 24) C.1 C.2.1 dX2_planOneByOne_24 (by decide) ?_
        exact hw _ _ _ h (lv_sub hl [1, 0] rfl))
  refine lv_istore_n (lv' := [(1, .int ((0 : Int32))), (0, .ref (a 21))]) (pc := 1) C.1 C.2.1 dX2_planOneByOne_1 rfl hl (by decide) rfl (fun ls hl => ?_)
  exact hw _ _ _ h (lv_sub hl [1, 0] rfl)

def wp_X8_each  (z : St) (P : Int32 → St → Prop) : Prop :=
  (wp_X2_planOneByOne z (fun r2 z1 => P r2 z1))
set_option maxHeartbeats 4000000 in
set_option maxRecDepth 100000 in
theorem m_X8_each (l : Launch) (D : va_G) (t : Ty3) (a : Nat → Nat)  (z : St) (P : Int32 → St → Prop) (hw : wp_X8_each z P) : CtI l D t yX8_each cX8_each 1 (some .int) 6 (wX t a) (wX t a z) [.ref (a 0)] P := by
  refine ctI_of (by decide) (Nat.le_of_ble_eq_true rfl) ?_
  intro p e s m args below meth c A ls C hr hlk h hl
  have hl : lv_has ls 1 [(0, .ref (a 0))] := hl
  unfold wp_X8_each at hw
  refine lv_aload_n (pc := 0) C.1 C.2.1 dX8_each_0 rfl (lv_at hl 0 rfl) ?_
  refine GX_X8_37_0 (pc := 1) C h dX8_each_1 ?_
  refine cl_vi (pc := 4) (As := []) (rest := []) C h (m_X2_planOneByOne l D t a z _ hw) mw_X2_planOneByOne lm_X8_195 md_X2_planOneByOne rcX_21 ⟨by decide, by decide⟩ ⟨Nat.zero_le _, Nat.zero_le _⟩ hl.1 rfl (Nat.le_of_ble_eq_true rfl) dX8_each_4 (fun r2 z1 H locs hw h => ?_)
  exact rt_i (pc := 7) C hr hlk h hw dX8_each_7

def wp_X4_append (b1 : Int32) (z : St) (P : St → Prop) : Prop :=
  (∀ K2 : Int32 → St → Prop, (∀ (v1 : Int32) (z3 : St), (((v1 < 0) → P z3) ∧ (¬ (v1 < 0) → (((((300 : Int32)) ≤ (gI z3 3701)) → P z3) ∧ (¬ (((300 : Int32)) ≤ (gI z3 3701)) → (vp_in (gI z3 3701) 300 ∧ (∀ z6 : St, z6 = wR z3 38 (upd (gF z3 38) (gI z3 3701).toNatClampNeg ((b1 >>> (v1 &&& 31)) &&& ((255 : Int32)))) → (∀ z7 : St, z7 = wI z6 3701 ((gI z6 3701) + ((1 : Int32))) → (∀ x8 : Int32, x8 = v1 + (-8) → K2 x8 z7)))))))) → K2 v1 z3) → K2 ((24 : Int32)) z)
set_option maxHeartbeats 4000000 in
set_option maxRecDepth 100000 in
theorem m_X4_append (l : Launch) (D : va_G) (t : Ty3) (a : Nat → Nat) (b1 : Int32) (z : St) (P : St → Prop) (hw : wp_X4_append b1 z P) : CtV l D t yX4_append cX4_append 3 none 0 (wX t a) (wX t a z) [.ref (a 37), .int b1] P := by
  refine ctV_of (by decide) (Nat.le_of_ble_eq_true rfl) ?_
  intro p e s m args below meth c A ls C hr hlk h hl
  have hl : lv_has ls 3 [(0, .ref (a 37)), (1, .int b1)] := hl
  unfold wp_X4_append at hw
  refine lv_bipush (v := 24) (pc := 0) C.1 C.2.1 dX4_append_0 (by decide) ?_
  have hw := hw (fun (v1 : Int32) (z3 : St) => ∀ (H : Heap) (locs : List Loc) (ls : Array Slot), wd D t A s (wX t a z3) H locs → lv_has ls 3 [(0, .ref (a 37)), (1, .int b1), (2, .int v1)] → W p l e (rmd 0) s m args below meth c H locs 0 0 (QV D t A (wX t a) P below args s) (F0 m 3 ls [])) (by
      intro v1 z3 hw H locs ls h hl
      refine lv_iload_n (pc := 3) C.1 C.2.1 dX4_append_3 rfl (lv_at hl 2 rfl) ?_
      refine lv_if_lt (tgt := 49) (pc := 4) C.1 C.2.1 dX4_append_4 (by decide) (fun c4 => ?_) (fun c4 => ?_)
      · have hw := hw.1 c4
        exact rt_v (pc := 49) C hr hlk h hw dX4_append_49
      · have hw := hw.2 c4
        refine lv_aload_n (pc := 7) C.1 C.2.1 dX4_append_7 rfl (lv_at hl 0 rfl) ?_
        refine GX_X4_15_37 (pc := 8) C h dX4_append_8 ?_
        refine lv_sipush (v := 300) (pc := 11) C.1 C.2.1 dX4_append_11 (by decide) ?_
        refine lv_icmp_ge (tgt := 49) (pc := 14) C.1 C.2.1 dX4_append_14 (by decide) (fun c5 => ?_) (fun c5 => ?_)
        · have hw := hw.1 c5
          exact rt_v (pc := 49) C hr hlk h hw dX4_append_49
        · have hw := hw.2 c5
          refine lv_aload_n (pc := 17) C.1 C.2.1 dX4_append_17 rfl (lv_at hl 0 rfl) ?_
          refine GX_X4_9_37 (pc := 18) C h dX4_append_18 ?_
          refine lv_aload_n (pc := 21) C.1 C.2.1 dX4_append_21 rfl (lv_at hl 0 rfl) ?_
          refine GX_X4_15_37 (pc := 22) C h dX4_append_22 ?_
          refine lv_iload_n (pc := 25) C.1 C.2.1 dX4_append_25 rfl (lv_at hl 1 rfl) ?_
          refine lv_iload_n (pc := 26) C.1 C.2.1 dX4_append_26 rfl (lv_at hl 2 rfl) ?_
          refine lv_ishr (pc := 27) C.1 C.2.1 dX4_append_27 ?_
          refine lv_sipush (v := 255) (pc := 28) C.1 C.2.1 dX4_append_28 (by decide) ?_
          refine lv_iand (pc := 31) C.1 C.2.1 dX4_append_31 ?_
          refine stX_38 (pc := 32) C h hw.1 dX4_append_32 (fun z6 ez6 H locs h => ?_)
          have hw := hw.2 z6 ez6
          refine lv_aload_n (pc := 33) C.1 C.2.1 dX4_append_33 rfl (lv_at hl 0 rfl) ?_
          refine lv_dup (pc := 34) C.1 C.2.1 dX4_append_34 rfl ?_
          refine GX_X4_15_37 (pc := 35) C h dX4_append_35 ?_
          refine lv_iconst (v := 1) (pc := 38) C.1 C.2.1 dX4_append_38 (by decide) ?_
          refine lv_iadd (pc := 39) C.1 C.2.1 dX4_append_39 ?_
          refine PX_X4_15_37 (pc := 40) C h dX4_append_40 (fun z7 ez7 H locs h => ?_)
          have hw := hw z7 ez7
          obtain ⟨x8, ex8⟩ : ∃ y : Int32, y = v1 + (-8) := ⟨_, rfl⟩
          have hw := hw x8 ex8
          refine lv_iinc (v := x8) (lv' := [(2, .int x8), (0, .ref (a 37)), (1, .int b1)]) (pc := 43) C.1 C.2.1 dX4_append_43 hl (k := 2) rfl (by rw [ex8]; rfl) (by decide) rfl (fun ls hl => ?_)
          refine lv_goto (tgt := 3) (pc := 46) C.1 C.2.1 dX4_append_46 (by decide) ?_
          exact hw _ _ _ h (lv_sub hl [1, 2, 0] rfl))
  refine lv_istore_n (lv' := [(2, .int ((24 : Int32))), (0, .ref (a 37)), (1, .int b1)]) (pc := 2) C.1 C.2.1 dX4_append_2 rfl hl (by decide) rfl (fun ls hl => ?_)
  exact hw _ _ _ h (lv_sub hl [1, 2, 0] rfl)

def wp_X8_feed (b1 : Int32) (b2 : Int32) (b3 : Int32) (b4 : Int32) (b5 : Int32) (z : St) (P : Int32 → St → Prop) : Prop :=
  ((((gI z 3701) ≤ ((280 : Int32))) → (wp_X4_append b1 z (fun z2 => (wp_X4_append b2 z2 (fun z4 => (wp_X4_append b3 z4 (fun z6 => (wp_X4_append b4 z6 (fun z8 => (wp_X4_append b5 z8 (fun z10 => P (gI z10 3701) z10))))))))))) ∧ (¬ ((gI z 3701) ≤ ((280 : Int32))) → P ((-1 : Int32)) z))
set_option maxHeartbeats 4000000 in
set_option maxRecDepth 100000 in
theorem m_X8_feed (l : Launch) (D : va_G) (t : Ty3) (a : Nat → Nat) (b1 : Int32) (b2 : Int32) (b3 : Int32) (b4 : Int32) (b5 : Int32) (z : St) (P : Int32 → St → Prop) (hw : wp_X8_feed b1 b2 b3 b4 b5 z P) : CtI l D t yX8_feed cX8_feed 6 (some .int) 1 (wX t a) (wX t a z) [.ref (a 0), .int b1, .int b2, .int b3, .int b4, .int b5] P := by
  refine ctI_of (by decide) (Nat.le_of_ble_eq_true rfl) ?_
  intro p e s m args below meth c A ls C hr hlk h hl
  have hl : lv_has ls 6 [(0, .ref (a 0)), (1, .int b1), (2, .int b2), (3, .int b3), (4, .int b4), (5, .int b5)] := hl
  unfold wp_X8_feed at hw
  refine lv_aload_n (pc := 0) C.1 C.2.1 dX8_feed_0 rfl (lv_at hl 0 rfl) ?_
  refine GX_X8_44_0 (pc := 1) C h dX8_feed_1 ?_
  refine GX_X8_199_37 (pc := 4) C h dX8_feed_4 ?_
  refine lv_sipush (v := 280) (pc := 7) C.1 C.2.1 dX8_feed_7 (by decide) ?_
  refine lv_icmp_le (tgt := 15) (pc := 10) C.1 C.2.1 dX8_feed_10 (by decide) (fun c1 => ?_) (fun c1 => ?_)
  · have hw := hw.1 c1
    refine lv_aload_n (pc := 15) C.1 C.2.1 dX8_feed_15 rfl (lv_at hl 0 rfl) ?_
    refine GX_X8_44_0 (pc := 16) C h dX8_feed_16 ?_
    refine lv_iload_n (pc := 19) C.1 C.2.1 dX8_feed_19 rfl (lv_at hl 1 rfl) ?_
    refine cl_vv (pc := 20) (As := [.int b1]) (rest := []) C h (m_X4_append l D t a b1 z _ hw) mw_X4_append lm_X8_202 md_X4_append rcX_37 ⟨by decide, by decide⟩ ⟨Nat.zero_le _, Nat.zero_le _⟩ hl.1 rfl (Nat.le_of_ble_eq_true rfl) dX8_feed_20 (fun z2 H locs hw h => ?_)
    refine lv_aload_n (pc := 23) C.1 C.2.1 dX8_feed_23 rfl (lv_at hl 0 rfl) ?_
    refine GX_X8_44_0 (pc := 24) C h dX8_feed_24 ?_
    refine lv_iload_n (pc := 27) C.1 C.2.1 dX8_feed_27 rfl (lv_at hl 2 rfl) ?_
    refine cl_vv (pc := 28) (As := [.int b2]) (rest := []) C h (m_X4_append l D t a b2 z2 _ hw) mw_X4_append lm_X8_202 md_X4_append rcX_37 ⟨by decide, by decide⟩ ⟨Nat.zero_le _, Nat.zero_le _⟩ hl.1 rfl (Nat.le_of_ble_eq_true rfl) dX8_feed_28 (fun z4 H locs hw h => ?_)
    refine lv_aload_n (pc := 31) C.1 C.2.1 dX8_feed_31 rfl (lv_at hl 0 rfl) ?_
    refine GX_X8_44_0 (pc := 32) C h dX8_feed_32 ?_
    refine lv_iload_n (pc := 35) C.1 C.2.1 dX8_feed_35 rfl (lv_at hl 3 rfl) ?_
    refine cl_vv (pc := 36) (As := [.int b3]) (rest := []) C h (m_X4_append l D t a b3 z4 _ hw) mw_X4_append lm_X8_202 md_X4_append rcX_37 ⟨by decide, by decide⟩ ⟨Nat.zero_le _, Nat.zero_le _⟩ hl.1 rfl (Nat.le_of_ble_eq_true rfl) dX8_feed_36 (fun z6 H locs hw h => ?_)
    refine lv_aload_n (pc := 39) C.1 C.2.1 dX8_feed_39 rfl (lv_at hl 0 rfl) ?_
    refine GX_X8_44_0 (pc := 40) C h dX8_feed_40 ?_
    refine lv_iload (pc := 43) C.1 C.2.1 dX8_feed_43 (lv_at hl 4 rfl) ?_
    refine cl_vv (pc := 45) (As := [.int b4]) (rest := []) C h (m_X4_append l D t a b4 z6 _ hw) mw_X4_append lm_X8_202 md_X4_append rcX_37 ⟨by decide, by decide⟩ ⟨Nat.zero_le _, Nat.zero_le _⟩ hl.1 rfl (Nat.le_of_ble_eq_true rfl) dX8_feed_45 (fun z8 H locs hw h => ?_)
    refine lv_aload_n (pc := 48) C.1 C.2.1 dX8_feed_48 rfl (lv_at hl 0 rfl) ?_
    refine GX_X8_44_0 (pc := 49) C h dX8_feed_49 ?_
    refine lv_iload (pc := 52) C.1 C.2.1 dX8_feed_52 (lv_at hl 5 rfl) ?_
    refine cl_vv (pc := 54) (As := [.int b5]) (rest := []) C h (m_X4_append l D t a b5 z8 _ hw) mw_X4_append lm_X8_202 md_X4_append rcX_37 ⟨by decide, by decide⟩ ⟨Nat.zero_le _, Nat.zero_le _⟩ hl.1 rfl (Nat.le_of_ble_eq_true rfl) dX8_feed_54 (fun z10 H locs hw h => ?_)
    refine lv_aload_n (pc := 57) C.1 C.2.1 dX8_feed_57 rfl (lv_at hl 0 rfl) ?_
    refine GX_X8_44_0 (pc := 58) C h dX8_feed_58 ?_
    refine GX_X8_199_37 (pc := 61) C h dX8_feed_61 ?_
    exact rt_i (pc := 64) C hr hlk h hw dX8_feed_64
  · have hw := hw.2 c1
    refine lv_iconst (v := -1) (pc := 13) C.1 C.2.1 dX8_feed_13 (by decide) ?_
    exact rt_i (pc := 14) C hr hlk h hw dX8_feed_14

def wp_X8_end (b1 : Int32) (z : St) (P : Int32 → St → Prop) : Prop :=
  (((b1 < 0) → P ((-1 : Int32)) z) ∧ (¬ (b1 < 0) → (((b1 ≤ (gI z 3701)) → (∀ z3 : St, z3 = wI z 3701 b1 → P b1 z3)) ∧ (¬ (b1 ≤ (gI z 3701)) → P ((-1 : Int32)) z))))
set_option maxHeartbeats 4000000 in
set_option maxRecDepth 100000 in
theorem m_X8_end (l : Launch) (D : va_G) (t : Ty3) (a : Nat → Nat) (b1 : Int32) (z : St) (P : Int32 → St → Prop) (hw : wp_X8_end b1 z P) : CtI l D t yX8_end cX8_end 2 (some .int) 0 (wX t a) (wX t a z) [.ref (a 0), .int b1] P := by
  refine ctI_of (by decide) (Nat.le_of_ble_eq_true rfl) ?_
  intro p e s m args below meth c A ls C hr hlk h hl
  have hl : lv_has ls 2 [(0, .ref (a 0)), (1, .int b1)] := hl
  unfold wp_X8_end at hw
  refine lv_iload_n (pc := 0) C.1 C.2.1 dX8_end_0 rfl (lv_at hl 1 rfl) ?_
  refine lv_if_lt (tgt := 15) (pc := 1) C.1 C.2.1 dX8_end_1 (by decide) (fun c1 => ?_) (fun c1 => ?_)
  · have hw := hw.1 c1
    refine lv_iconst (v := -1) (pc := 15) C.1 C.2.1 dX8_end_15 (by decide) ?_
    exact rt_i (pc := 16) C hr hlk h hw dX8_end_16
  · have hw := hw.2 c1
    refine lv_iload_n (pc := 4) C.1 C.2.1 dX8_end_4 rfl (lv_at hl 1 rfl) ?_
    refine lv_aload_n (pc := 5) C.1 C.2.1 dX8_end_5 rfl (lv_at hl 0 rfl) ?_
    refine GX_X8_44_0 (pc := 6) C h dX8_end_6 ?_
    refine GX_X8_199_37 (pc := 9) C h dX8_end_9 ?_
    refine lv_icmp_le (tgt := 17) (pc := 12) C.1 C.2.1 dX8_end_12 (by decide) (fun c2 => ?_) (fun c2 => ?_)
    · have hw := hw.1 c2
      refine lv_aload_n (pc := 17) C.1 C.2.1 dX8_end_17 rfl (lv_at hl 0 rfl) ?_
      refine GX_X8_44_0 (pc := 18) C h dX8_end_18 ?_
      refine lv_iload_n (pc := 21) C.1 C.2.1 dX8_end_21 rfl (lv_at hl 1 rfl) ?_
      refine PX_X8_199_37 (pc := 22) C h dX8_end_22 (fun z3 ez3 H locs h => ?_)
      have hw := hw z3 ez3
      refine lv_iload_n (pc := 25) C.1 C.2.1 dX8_end_25 rfl (lv_at hl 1 rfl) ?_
      exact rt_i (pc := 26) C hr hlk h hw dX8_end_26
    · have hw := hw.2 c2
      refine lv_iconst (v := -1) (pc := 15) C.1 C.2.1 dX8_end_15 (by decide) ?_
      exact rt_i (pc := 16) C hr hlk h hw dX8_end_16

def wp_X8_fault  (z : St) (P : Int32 → Prop) : Prop :=
  P (gI z 7)
set_option maxHeartbeats 4000000 in
set_option maxRecDepth 100000 in
theorem m_X8_fault (l : Launch) (D : va_G) (t : Ty3) (a : Nat → Nat)  (z : St) (P : Int32 → Prop) (hw : wp_X8_fault z P) : CtI l D t yX8_fault cX8_fault 1 (some .int) 0 (wX t a) (wX t a z) [.ref (a 0)] (fun rr zz => zz = z ∧ P rr) := by
  refine ctI_of (by decide) (Nat.le_of_ble_eq_true rfl) ?_
  intro p e s m args below meth c A ls C hr hlk h hl
  have hl : lv_has ls 1 [(0, .ref (a 0))] := hl
  unfold wp_X8_fault at hw
  refine lv_aload_n (pc := 0) C.1 C.2.1 dX8_fault_0 rfl (lv_at hl 0 rfl) ?_
  refine GX_X8_64_0 (pc := 1) C h dX8_fault_1 ?_
  exact rt_i (pc := 4) C hr hlk h ⟨rfl, hw⟩ dX8_fault_4
