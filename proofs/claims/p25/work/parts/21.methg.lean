def wp_X7_mostIn (b1 : Int32) (b2 : Int32) (z : St) (P : Int32 → Prop) : Prop :=
  (vp_in b1 6 ∧ (vp_in (gF z 40 b1.toNatClampNeg) 4 ∧ (vp_in b1 6 ∧ (wp_X0_draws (gF z 40 b1.toNatClampNeg) b2 z (fun r2 => (∀ x3 : Int32, x3 = (gF z 8 (gF z 40 b1.toNatClampNeg).toNatClampNeg) - r2 → (vp_in b1 6 ∧ (vp_in b1 6 ∧ (wp_X7_mostWithin x3 (gF z 43 b1.toNatClampNeg) (gF z 46 b1.toNatClampNeg) z (fun r5 => P r5))))))))))
set_option maxHeartbeats 4000000 in
set_option maxRecDepth 100000 in
theorem m_X7_mostIn (l : Launch) (D : va_G) (t : Ty3) (a : Nat → Nat) (b1 : Int32) (b2 : Int32) (z : St) (P : Int32 → Prop) (hw : wp_X7_mostIn b1 b2 z P) : CtI l D t yX7_mostIn cX7_mostIn 4 (some .int) 1 (wX t a) (wX t a z) [.ref (a 39), .int b1, .int b2] (fun rr zz => zz = z ∧ P rr) := by
  refine ctI_of (by decide) (Nat.le_of_ble_eq_true rfl) ?_
  intro p e s m args below meth c A ls C hr hlk h hl
  have hl : lv_has ls 4 [(0, .ref (a 39)), (1, .int b1), (2, .int b2)] := hl
  unfold wp_X7_mostIn at hw
  refine lv_aload_n (pc := 0) C.1 C.2.1 dX7_mostIn_0 rfl (lv_at hl 0 rfl) ?_
  refine GX_X7_53_39 (pc := 1) C h dX7_mostIn_1 ?_
  refine GX_X7_100_7 (pc := 4) C h dX7_mostIn_4 ?_
  refine lv_aload_n (pc := 7) C.1 C.2.1 dX7_mostIn_7 rfl (lv_at hl 0 rfl) ?_
  refine GX_X7_9_39 (pc := 8) C h dX7_mostIn_8 ?_
  refine lv_iload_n (pc := 11) C.1 C.2.1 dX7_mostIn_11 rfl (lv_at hl 1 rfl) ?_
  refine ldX_40 (pc := 12) C h hw.1 dX7_mostIn_12 ?_
  have hw := hw.2
  refine ldX_8 (pc := 13) C h hw.1 dX7_mostIn_13 ?_
  have hw := hw.2
  refine lv_aload_n (pc := 14) C.1 C.2.1 dX7_mostIn_14 rfl (lv_at hl 0 rfl) ?_
  refine GX_X7_53_39 (pc := 15) C h dX7_mostIn_15 ?_
  refine lv_aload_n (pc := 18) C.1 C.2.1 dX7_mostIn_18 rfl (lv_at hl 0 rfl) ?_
  refine GX_X7_9_39 (pc := 19) C h dX7_mostIn_19 ?_
  refine lv_iload_n (pc := 22) C.1 C.2.1 dX7_mostIn_22 rfl (lv_at hl 1 rfl) ?_
  refine ldX_40 (pc := 23) C h hw.1 dX7_mostIn_23 ?_
  have hw := hw.2
  refine lv_iload_n (pc := 24) C.1 C.2.1 dX7_mostIn_24 rfl (lv_at hl 2 rfl) ?_
  refine cl_vi (pc := 25) (As := [.int (gF z 40 b1.toNatClampNeg), .int b2]) (rest := [.int (gF z 8 (gF z 40 b1.toNatClampNeg).toNatClampNeg)]) C h (m_X0_draws l D t a (gF z 40 b1.toNatClampNeg) b2 z _ hw) mw_X0_draws lm_X7_105 md_X0_draws rcX_7 ⟨by decide, by decide⟩ ⟨Nat.zero_le _, Nat.zero_le _⟩ hl.1 rfl (Nat.le_of_ble_eq_true rfl) dX7_mostIn_25 (fun r2 z1 H locs hw h => ?_)
  rw [hw.1] at h
  have hw := hw.2
  refine lv_isub (pc := 28) C.1 C.2.1 dX7_mostIn_28 ?_
  refine lv_topi (fun x3 ex3 => ?_)
  have hw := hw x3 ex3
  refine lv_istore_n (lv' := [(3, .int x3), (0, .ref (a 39)), (1, .int b1), (2, .int b2)]) (pc := 29) C.1 C.2.1 dX7_mostIn_29 rfl hl (by decide) rfl (fun ls hl => ?_)
  refine lv_iload_n (pc := 30) C.1 C.2.1 dX7_mostIn_30 rfl (lv_at hl 0 rfl) ?_
  refine lv_aload_n (pc := 31) C.1 C.2.1 dX7_mostIn_31 rfl (lv_at hl 1 rfl) ?_
  refine GX_X7_21_39 (pc := 32) C h dX7_mostIn_32 ?_
  refine lv_iload_n (pc := 35) C.1 C.2.1 dX7_mostIn_35 rfl (lv_at hl 2 rfl) ?_
  refine ldX_43 (pc := 36) C h hw.1 dX7_mostIn_36 ?_
  have hw := hw.2
  refine lv_aload_n (pc := 37) C.1 C.2.1 dX7_mostIn_37 rfl (lv_at hl 1 rfl) ?_
  refine GX_X7_30_39 (pc := 38) C h dX7_mostIn_38 ?_
  refine lv_iload_n (pc := 41) C.1 C.2.1 dX7_mostIn_41 rfl (lv_at hl 2 rfl) ?_
  refine ldX_46 (pc := 42) C h hw.1 dX7_mostIn_42 ?_
  have hw := hw.2
  refine cl_si (pc := 43) (As := [.int x3, .int (gF z 43 b1.toNatClampNeg), .int (gF z 46 b1.toNatClampNeg)]) (rest := []) C h (m_X7_mostWithin l D t a x3 (gF z 43 b1.toNatClampNeg) (gF z 46 b1.toNatClampNeg) z _ hw) mw_X7_mostWithin lm_X7_108 md_X7_mostWithin ⟨by decide, by decide⟩ ⟨Nat.zero_le _, Nat.zero_le _⟩ hl.1 rfl (Nat.le_of_ble_eq_true rfl) dX7_mostIn_43 (fun r5 z4 H locs hw h => ?_)
  rw [hw.1] at h
  have hw := hw.2
  exact rt_i (pc := 46) C hr hlk h ⟨rfl, hw⟩ dX7_mostIn_46

def wp_X7_choose (b1 : Int32) (b2 : Int32) (b3 : Int32) (z : St) (P : St → Prop) : Prop :=
  (wp_X7_mostOut b1 b2 z (fun r2 => (∀ x3 : Int32, x3 = -r2 → (wp_X7_mostIn b1 b2 z (fun r5 => (vp_in b1 6 ∧ (vp_in b2 168 ∧ (∀ x6 : Int32, x6 = (gF z 46 b1.toNatClampNeg) * (gF z 5 b2.toNatClampNeg) → (∀ K8 : Int32 → St → Prop, (∀ (v7 : Int32) (z9 : St), (vp_in b1 6 ∧ ((((gF z9 41 b1.toNatClampNeg) < v7) → P z9) ∧ (¬ ((gF z9 41 b1.toNatClampNeg) < v7) → (∀ x11 : Int32, x11 = (if x3 < -v7 then -v7 else x3) → (vp_in b1 6 ∧ (∀ x12 : Int32, x12 = (if (gF z9 41 b1.toNatClampNeg) - v7 < r5 then (gF z9 41 b1.toNatClampNeg) - v7 else r5) → (vp_in v7 41 ∧ (∀ z13 : St, z13 = wL z9 47 (vp_updL (gG z9 47) v7.toNatClampNeg ((1000000000000000000 : Int64))) → (vp_in (b3 + v7) 1968 ∧ (∀ z14 : St, z14 = wR z13 49 (upd (gF z13 49) (b3 + v7).toNatClampNeg ((0 : Int32))) → (∀ K16 : Int32 → St → Prop, (∀ (v15 : Int32) (z17 : St), (((x12 < v15) → (∀ x19 : Int32, x19 = v7 + (1) → K8 x19 z17)) ∧ (¬ (x12 < v15) → (vp_in b1 6 ∧ (vp_in ((if (0 : Int32) < (v7 + v15) - (gF z17 45 b1.toNatClampNeg) then (v7 + v15) - (gF z17 45 b1.toNatClampNeg) else (0 : Int32))) 41 ∧ (∀ x20 : Int64, x20 = gG z17 48 ((if (0 : Int32) < (v7 + v15) - (gF z17 45 b1.toNatClampNeg) then (v7 + v15) - (gF z17 45 b1.toNatClampNeg) else (0 : Int32))).toNatClampNeg → (∀ K21 : St → Prop, (∀ (z22 : St), (∀ x23 : Int32, x23 = v15 + (1) → K16 x23 z22) → K21 z22) → ((((lg_cmp x20 ((1000000000000000000 : Int64))) = 0) → K21 z17) ∧ (¬ ((lg_cmp x20 ((1000000000000000000 : Int64))) = 0) → (vp_in v7 41 ∧ (((0 ≤ (lg_cmp (x20 + ((Int32.toInt64 v15) * (Int32.toInt64 x6))) (gG z17 47 v7.toNatClampNeg))) → K21 z17) ∧ (¬ (0 ≤ (lg_cmp (x20 + ((Int32.toInt64 v15) * (Int32.toInt64 x6))) (gG z17 47 v7.toNatClampNeg))) → (vp_in v7 41 ∧ (∀ z26 : St, z26 = wL z17 47 (vp_updL (gG z17 47) v7.toNatClampNeg (x20 + ((Int32.toInt64 v15) * (Int32.toInt64 x6)))) → (vp_in (b3 + v7) 1968 ∧ (∀ z27 : St, z27 = wR z26 49 (upd (gF z26 49) (b3 + v7).toNatClampNeg v15) → K21 z27))))))))))))))) → K16 v15 z17) → K16 x11 z14))))))))))) → K8 v7 z9) → K8 ((0 : Int32)) z)))))))))
set_option maxHeartbeats 4000000 in
set_option maxRecDepth 100000 in
theorem m_X7_choose (l : Launch) (D : va_G) (t : Ty3) (a : Nat → Nat) (b1 : Int32) (b2 : Int32) (b3 : Int32) (z : St) (P : St → Prop) (hw : wp_X7_choose b1 b2 b3 z P) : CtV l D t yX7_choose cX7_choose 13 none 2 (wX t a) (wX t a z) [.ref (a 39), .int b1, .int b2, .int b3] P := by
  refine ctV_of (by decide) (Nat.le_of_ble_eq_true rfl) ?_
  intro p e s m args below meth c A ls C hr hlk h hl
  have hl : lv_has ls 13 [(0, .ref (a 39)), (1, .int b1), (2, .int b2), (3, .int b3)] := hl
  unfold wp_X7_choose at hw
  refine lv_aload_n (pc := 0) C.1 C.2.1 dX7_choose_0 rfl (lv_at hl 0 rfl) ?_
  refine lv_iload_n (pc := 1) C.1 C.2.1 dX7_choose_1 rfl (lv_at hl 1 rfl) ?_
  refine lv_iload_n (pc := 2) C.1 C.2.1 dX7_choose_2 rfl (lv_at hl 2 rfl) ?_
  refine cl_vi (pc := 3) (As := [.int b1, .int b2]) (rest := []) C h (m_X7_mostOut l D t a b1 b2 z _ hw) mw_X7_mostOut lm_X7_80 md_X7_mostOut rcX_39 ⟨by decide, by decide⟩ ⟨Nat.zero_le _, Nat.zero_le _⟩ hl.1 rfl (Nat.le_of_ble_eq_true rfl) dX7_choose_3 (fun r2 z1 H locs hw h => ?_)
  rw [hw.1] at h
  have hw := hw.2
  refine lv_ineg (pc := 6) C.1 C.2.1 dX7_choose_6 ?_
  refine lv_topi (fun x3 ex3 => ?_)
  have hw := hw x3 ex3
  refine lv_istore (lv' := [(4, .int x3), (0, .ref (a 39)), (1, .int b1), (2, .int b2), (3, .int b3)]) (pc := 7) C.1 C.2.1 dX7_choose_7 hl (by decide) rfl (fun ls hl => ?_)
  refine lv_aload_n (pc := 9) C.1 C.2.1 dX7_choose_9 rfl (lv_at hl 1 rfl) ?_
  refine lv_iload_n (pc := 10) C.1 C.2.1 dX7_choose_10 rfl (lv_at hl 2 rfl) ?_
  refine lv_iload_n (pc := 11) C.1 C.2.1 dX7_choose_11 rfl (lv_at hl 3 rfl) ?_
  refine cl_vi (pc := 12) (As := [.int b1, .int b2]) (rest := []) C h (m_X7_mostIn l D t a b1 b2 z _ hw) mw_X7_mostIn lm_X7_84 md_X7_mostIn rcX_39 ⟨by decide, by decide⟩ ⟨Nat.zero_le _, Nat.zero_le _⟩ hl.1 rfl (Nat.le_of_ble_eq_true rfl) dX7_choose_12 (fun r5 z4 H locs hw h => ?_)
  rw [hw.1] at h
  have hw := hw.2
  refine lv_istore (lv' := [(5, .int r5), (4, .int x3), (0, .ref (a 39)), (1, .int b1), (2, .int b2), (3, .int b3)]) (pc := 15) C.1 C.2.1 dX7_choose_15 hl (by decide) rfl (fun ls hl => ?_)
  refine lv_aload_n (pc := 17) C.1 C.2.1 dX7_choose_17 rfl (lv_at hl 2 rfl) ?_
  refine GX_X7_30_39 (pc := 18) C h dX7_choose_18 ?_
  refine lv_iload_n (pc := 21) C.1 C.2.1 dX7_choose_21 rfl (lv_at hl 3 rfl) ?_
  refine ldX_46 (pc := 22) C h hw.1 dX7_choose_22 ?_
  have hw := hw.2
  refine lv_aload_n (pc := 23) C.1 C.2.1 dX7_choose_23 rfl (lv_at hl 2 rfl) ?_
  refine GX_X7_49_39 (pc := 24) C h dX7_choose_24 ?_
  refine GX_X7_87_1 (pc := 27) C h dX7_choose_27 ?_
  refine lv_iload_n (pc := 30) C.1 C.2.1 dX7_choose_30 rfl (lv_at hl 4 rfl) ?_
  refine ldX_5 (pc := 31) C h hw.1 dX7_choose_31 ?_
  have hw := hw.2
  refine lv_imul (pc := 32) C.1 C.2.1 dX7_choose_32 ?_
  refine lv_topi (fun x6 ex6 => ?_)
  have hw := hw x6 ex6
  refine lv_istore (lv' := [(6, .int x6), (5, .int r5), (4, .int x3), (0, .ref (a 39)), (1, .int b1), (2, .int b2), (3, .int b3)]) (pc := 33) C.1 C.2.1 dX7_choose_33 hl (by decide) rfl (fun ls hl => ?_)
  refine lv_iconst (v := 0) (pc := 35) C.1 C.2.1 dX7_choose_35 (by decide) ?_
  have hw := hw (fun (v7 : Int32) (z9 : St) => ∀ (H : Heap) (locs : List Loc) (ls : Array Slot), wd D t A s (wX t a z9) H locs → lv_has ls 13 [(0, .ref (a 39)), (1, .int b1), (3, .int b3), (4, .int x3), (5, .int r5), (6, .int x6), (7, .int v7)] → W p l e (rmd 2) s m args below meth c H locs 0 0 (QV D t A (wX t a) P below args s) (F0 m 38 ls [])) (by
      intro v7 z9 hw H locs ls h hl
      refine lv_iload (pc := 38) C.1 C.2.1 dX7_choose_38 (lv_at hl 6 rfl) ?_
      refine lv_aload_n (pc := 40) C.1 C.2.1 dX7_choose_40 rfl (lv_at hl 0 rfl) ?_
      refine GX_X7_15_39 (pc := 41) C h dX7_choose_41 ?_
      refine lv_iload_n (pc := 44) C.1 C.2.1 dX7_choose_44 rfl (lv_at hl 1 rfl) ?_
      refine ldX_41 (pc := 45) C h hw.1 dX7_choose_45 ?_
      have hw := hw.2
      refine lv_icmp_gt (tgt := 199) (pc := 46) C.1 C.2.1 dX7_choose_46 (by decide) (fun c10 => ?_) (fun c10 => ?_)
      · have hw := hw.1 c10
        exact rt_v (pc := 199) C hr hlk h hw dX7_choose_199
      · have hw := hw.2 c10
        refine lv_iload (pc := 49) C.1 C.2.1 dX7_choose_49 (lv_at hl 3 rfl) ?_
        refine lv_iload (pc := 51) C.1 C.2.1 dX7_choose_51 (lv_at hl 6 rfl) ?_
        refine lv_ineg (pc := 53) C.1 C.2.1 dX7_choose_53 ?_
        refine r_max (pc := 54) C lm_X7_92 m1_max m2_max m3_max ⟨by decide, by decide⟩ ⟨Nat.zero_le _, Nat.zero_le _⟩ hl.1 (Nat.le_of_ble_eq_true rfl) dX7_choose_54 ?_
        refine lv_topi (fun x11 ex11 => ?_)
        have hw := hw x11 ex11
        refine lv_istore (lv' := [(8, .int x11), (0, .ref (a 39)), (1, .int b1), (3, .int b3), (4, .int x3), (5, .int r5), (6, .int x6), (7, .int v7)]) (pc := 57) C.1 C.2.1 dX7_choose_57 hl (by decide) rfl (fun ls hl => ?_)
        refine lv_iload (pc := 59) C.1 C.2.1 dX7_choose_59 (lv_at hl 5 rfl) ?_
        refine lv_aload_n (pc := 61) C.1 C.2.1 dX7_choose_61 rfl (lv_at hl 1 rfl) ?_
        refine GX_X7_15_39 (pc := 62) C h dX7_choose_62 ?_
        refine lv_iload_n (pc := 65) C.1 C.2.1 dX7_choose_65 rfl (lv_at hl 2 rfl) ?_
        refine ldX_41 (pc := 66) C h hw.1 dX7_choose_66 ?_
        have hw := hw.2
        refine lv_iload (pc := 67) C.1 C.2.1 dX7_choose_67 (lv_at hl 7 rfl) ?_
        refine lv_isub (pc := 69) C.1 C.2.1 dX7_choose_69 ?_
        refine r_min (pc := 70) C lm_X7_97 m1_min m2_min m3_min ⟨by decide, by decide⟩ ⟨Nat.zero_le _, Nat.zero_le _⟩ hl.1 (Nat.le_of_ble_eq_true rfl) dX7_choose_70 ?_
        refine lv_topi (fun x12 ex12 => ?_)
        have hw := hw x12 ex12
        refine lv_istore (lv' := [(9, .int x12), (8, .int x11), (0, .ref (a 39)), (1, .int b1), (3, .int b3), (4, .int x3), (5, .int r5), (6, .int x6), (7, .int v7)]) (pc := 73) C.1 C.2.1 dX7_choose_73 hl (by decide) rfl (fun ls hl => ?_)
        refine lv_aload_n (pc := 75) C.1 C.2.1 dX7_choose_75 rfl (lv_at hl 2 rfl) ?_
        refine GX_X7_33_39 (pc := 76) C h dX7_choose_76 ?_
        refine lv_iload (pc := 79) C.1 C.2.1 dX7_choose_79 (lv_at hl 8 rfl) ?_
        refine lv_ldc2 (pc := 81) C.1 C.2.1 C.2.2.2.1 (C.2.2.2.2 _ lc_X7_68) dX7_choose_81 ?_
        refine stX_47 (pc := 84) C h hw.1 dX7_choose_84 (fun z13 ez13 H locs h => ?_)
        have hw := hw.2 z13 ez13
        refine lv_aload_n (pc := 85) C.1 C.2.1 dX7_choose_85 rfl (lv_at hl 2 rfl) ?_
        refine GX_X7_40_39 (pc := 86) C h dX7_choose_86 ?_
        refine lv_iload_n (pc := 89) C.1 C.2.1 dX7_choose_89 rfl (lv_at hl 4 rfl) ?_
        refine lv_iload (pc := 90) C.1 C.2.1 dX7_choose_90 (lv_at hl 8 rfl) ?_
        refine lv_iadd (pc := 92) C.1 C.2.1 dX7_choose_92 ?_
        refine lv_iconst (v := 0) (pc := 93) C.1 C.2.1 dX7_choose_93 (by decide) ?_
        refine stX_49 (pc := 94) C h hw.1 dX7_choose_94 (fun z14 ez14 H locs h => ?_)
        have hw := hw.2 z14 ez14
        refine lv_iload (pc := 95) C.1 C.2.1 dX7_choose_95 (lv_at hl 1 rfl) ?_
        have hw := hw (fun (v15 : Int32) (z17 : St) => ∀ (H : Heap) (locs : List Loc) (ls : Array Slot), wd D t A s (wX t a z17) H locs → lv_has ls 13 [(0, .ref (a 39)), (1, .int b1), (3, .int b3), (4, .int x3), (5, .int r5), (6, .int x6), (7, .int v7), (9, .int x12), (10, .int v15)] → W p l e (rmd 2) s m args below meth c H locs 0 0 (QV D t A (wX t a) P below args s) (F0 m 99 ls [])) (by
            intro v15 z17 hw H locs ls h hl
            refine lv_iload (pc := 99) C.1 C.2.1 dX7_choose_99 (lv_at hl 8 rfl) ?_
            refine lv_iload (pc := 101) C.1 C.2.1 dX7_choose_101 (lv_at hl 7 rfl) ?_
            refine lv_icmp_gt (tgt := 193) (pc := 103) C.1 C.2.1 dX7_choose_103 (by decide) (fun c18 => ?_) (fun c18 => ?_)
            · have hw := hw.1 c18
              obtain ⟨x19, ex19⟩ : ∃ y : Int32, y = v7 + (1) := ⟨_, rfl⟩
              have hw := hw x19 ex19
              refine lv_iinc (v := x19) (lv' := [(7, .int x19), (0, .ref (a 39)), (1, .int b1), (3, .int b3), (4, .int x3), (5, .int r5), (6, .int x6), (9, .int x12), (10, .int v15)]) (pc := 193) C.1 C.2.1 dX7_choose_193 hl (k := 6) rfl (by rw [ex19]; rfl) (by decide) rfl (fun ls hl => ?_)
              refine lv_goto (tgt := 38) (pc := 196) C.1 C.2.1 dX7_choose_196 (by decide) ?_
              exact hw _ _ _ h (lv_sub hl [1, 2, 3, 4, 5, 6, 0] rfl)
            · have hw := hw.2 c18
              refine lv_aload_n (pc := 106) C.1 C.2.1 dX7_choose_106 rfl (lv_at hl 0 rfl) ?_
              refine GX_X7_37_39 (pc := 107) C h dX7_choose_107 ?_
              refine lv_iconst (v := 0) (pc := 110) C.1 C.2.1 dX7_choose_110 (by decide) ?_
              refine lv_iload (pc := 111) C.1 C.2.1 dX7_choose_111 (lv_at hl 6 rfl) ?_
              refine lv_iload (pc := 113) C.1 C.2.1 dX7_choose_113 (lv_at hl 8 rfl) ?_
              refine lv_iadd (pc := 115) C.1 C.2.1 dX7_choose_115 ?_
              refine lv_aload_n (pc := 116) C.1 C.2.1 dX7_choose_116 rfl (lv_at hl 0 rfl) ?_
              refine GX_X7_27_39 (pc := 117) C h dX7_choose_117 ?_
              refine lv_iload_n (pc := 120) C.1 C.2.1 dX7_choose_120 rfl (lv_at hl 1 rfl) ?_
              refine ldX_45 (pc := 121) C h hw.1 dX7_choose_121 ?_
              have hw := hw.2
              refine lv_isub (pc := 122) C.1 C.2.1 dX7_choose_122 ?_
              refine r_max (pc := 123) C lm_X7_92 m1_max m2_max m3_max ⟨by decide, by decide⟩ ⟨Nat.zero_le _, Nat.zero_le _⟩ hl.1 (Nat.le_of_ble_eq_true rfl) dX7_choose_123 ?_
              refine ldX_48 (pc := 126) C h hw.1 dX7_choose_126 ?_
              have hw := hw.2
              refine lv_topl (fun x20 ex20 => ?_)
              have hw := hw x20 ex20
              refine lv_lstore (lv' := [(11, .long x20), (0, .ref (a 39)), (1, .int b1), (3, .int b3), (4, .int x3), (5, .int r5), (6, .int x6), (7, .int v7), (9, .int x12), (10, .int v15)]) (pc := 127) C.1 C.2.1 dX7_choose_127 hl (by decide) rfl (fun ls hl => ?_)
              refine lv_lload (pc := 129) C.1 C.2.1 dX7_choose_129 (lv_at hl 0 rfl) ?_
              refine lv_ldc2 (pc := 131) C.1 C.2.1 C.2.2.2.1 (C.2.2.2.2 _ lc_X7_68) dX7_choose_131 ?_
              refine W.lcmp (pc := 134) C.1 C.2.1 dX7_choose_134 ?_
              have hw := hw (fun (z22 : St) => ∀ (H : Heap) (locs : List Loc) (ls : Array Slot), wd D t A s (wX t a z22) H locs → lv_has ls 13 [(0, .ref (a 39)), (1, .int b1), (3, .int b3), (4, .int x3), (5, .int r5), (6, .int x6), (7, .int v7), (9, .int x12), (10, .int v15)] → W p l e (rmd 2) s m args below meth c H locs 0 0 (QV D t A (wX t a) P below args s) (F0 m 187 ls [])) (by
                  intro z22 hw H locs ls h hl
                  obtain ⟨x23, ex23⟩ : ∃ y : Int32, y = v15 + (1) := ⟨_, rfl⟩
                  have hw := hw x23 ex23
                  refine lv_iinc (v := x23) (lv' := [(10, .int x23), (0, .ref (a 39)), (1, .int b1), (3, .int b3), (4, .int x3), (5, .int r5), (6, .int x6), (7, .int v7), (9, .int x12)]) (pc := 187) C.1 C.2.1 dX7_choose_187 hl (k := 8) rfl (by rw [ex23]; rfl) (by decide) rfl (fun ls hl => ?_)
                  refine lv_goto (tgt := 99) (pc := 190) C.1 C.2.1 dX7_choose_190 (by decide) ?_
                  exact hw _ _ _ h (lv_sub hl [1, 2, 3, 4, 5, 6, 7, 8, 0] rfl))
              refine lv_if_eq (tgt := 187) (pc := 135) C.1 C.2.1 dX7_choose_135 (by decide) (fun c24 => ?_) (fun c24 => ?_)
              · have hw := hw.1 c24
                exact hw _ _ _ h (lv_sub hl [1, 2, 3, 4, 5, 6, 7, 8, 9] rfl)
              · have hw := hw.2 c24
                refine lv_lload (pc := 138) C.1 C.2.1 dX7_choose_138 (lv_at hl 0 rfl) ?_
                refine lv_iload (pc := 140) C.1 C.2.1 dX7_choose_140 (lv_at hl 9 rfl) ?_
                refine lv_i2l (pc := 142) C.1 C.2.1 dX7_choose_142 rfl ?_
                refine lv_iload (pc := 143) C.1 C.2.1 dX7_choose_143 (lv_at hl 6 rfl) ?_
                refine lv_i2l (pc := 145) C.1 C.2.1 dX7_choose_145 rfl ?_
                refine lv_lmul (pc := 146) C.1 C.2.1 dX7_choose_146 ?_
                refine lv_ladd (pc := 147) C.1 C.2.1 dX7_choose_147 ?_
                refine lv_aload_n (pc := 148) C.1 C.2.1 dX7_choose_148 rfl (lv_at hl 1 rfl) ?_
                refine GX_X7_33_39 (pc := 149) C h dX7_choose_149 ?_
                refine lv_iload (pc := 152) C.1 C.2.1 dX7_choose_152 (lv_at hl 7 rfl) ?_
                refine ldX_47 (pc := 154) C h hw.1 dX7_choose_154 ?_
                have hw := hw.2
                refine W.lcmp (pc := 155) C.1 C.2.1 dX7_choose_155 ?_
                refine lv_if_ge (tgt := 187) (pc := 156) C.1 C.2.1 dX7_choose_156 (by decide) (fun c25 => ?_) (fun c25 => ?_)
                · have hw := hw.1 c25
                  exact hw _ _ _ h (lv_sub hl [1, 2, 3, 4, 5, 6, 7, 8, 9] rfl)
                · have hw := hw.2 c25
                  refine lv_aload_n (pc := 159) C.1 C.2.1 dX7_choose_159 rfl (lv_at hl 1 rfl) ?_
                  refine GX_X7_33_39 (pc := 160) C h dX7_choose_160 ?_
                  refine lv_iload (pc := 163) C.1 C.2.1 dX7_choose_163 (lv_at hl 7 rfl) ?_
                  refine lv_lload (pc := 165) C.1 C.2.1 dX7_choose_165 (lv_at hl 0 rfl) ?_
                  refine lv_iload (pc := 167) C.1 C.2.1 dX7_choose_167 (lv_at hl 9 rfl) ?_
                  refine lv_i2l (pc := 169) C.1 C.2.1 dX7_choose_169 rfl ?_
                  refine lv_iload (pc := 170) C.1 C.2.1 dX7_choose_170 (lv_at hl 6 rfl) ?_
                  refine lv_i2l (pc := 172) C.1 C.2.1 dX7_choose_172 rfl ?_
                  refine lv_lmul (pc := 173) C.1 C.2.1 dX7_choose_173 ?_
                  refine lv_ladd (pc := 174) C.1 C.2.1 dX7_choose_174 ?_
                  refine stX_47 (pc := 175) C h hw.1 dX7_choose_175 (fun z26 ez26 H locs h => ?_)
                  have hw := hw.2 z26 ez26
                  refine lv_aload_n (pc := 176) C.1 C.2.1 dX7_choose_176 rfl (lv_at hl 1 rfl) ?_
                  refine GX_X7_40_39 (pc := 177) C h dX7_choose_177 ?_
                  refine lv_iload_n (pc := 180) C.1 C.2.1 dX7_choose_180 rfl (lv_at hl 3 rfl) ?_
                  refine lv_iload (pc := 181) C.1 C.2.1 dX7_choose_181 (lv_at hl 7 rfl) ?_
                  refine lv_iadd (pc := 183) C.1 C.2.1 dX7_choose_183 ?_
                  refine lv_iload (pc := 184) C.1 C.2.1 dX7_choose_184 (lv_at hl 9 rfl) ?_
                  refine stX_49 (pc := 186) C h hw.1 dX7_choose_186 (fun z27 ez27 H locs h => ?_)
                  have hw := hw.2 z27 ez27
                  exact hw _ _ _ h (lv_sub hl [1, 2, 3, 4, 5, 6, 7, 8, 9] rfl))
        refine lv_istore (lv' := [(10, .int x11), (9, .int x12), (8, .int x11), (0, .ref (a 39)), (1, .int b1), (3, .int b3), (4, .int x3), (5, .int r5), (6, .int x6), (7, .int v7)]) (pc := 97) C.1 C.2.1 dX7_choose_97 hl (by decide) rfl (fun ls hl => ?_)
        exact hw _ _ _ h (lv_sub hl [3, 4, 5, 6, 7, 8, 9, 1, 0] rfl))
  refine lv_istore (lv' := [(7, .int ((0 : Int32))), (6, .int x6), (5, .int r5), (4, .int x3), (0, .ref (a 39)), (1, .int b1), (2, .int b2), (3, .int b3)]) (pc := 36) C.1 C.2.1 dX7_choose_36 hl (by decide) rfl (fun ls hl => ?_)
  exact hw _ _ _ h (lv_sub hl [4, 5, 7, 3, 2, 1, 0] rfl)

def wp_X7_cheapest (b1 : Int32) (b2 : Int32) (b3 : Int32) (b4 : Int32) (z : St) (P : Int64 → St → Prop) : Prop :=
  (∀ K2 : Int32 → St → Prop, (∀ (v1 : Int32) (z3 : St), (vp_in b1 6 ∧ ((((gF z3 41 b1.toNatClampNeg) < v1) → (∀ K6 : Int32 → St → Prop, (∀ (v5 : Int32) (z7 : St), (((v5 < 0) → (vp_in b1 6 ∧ (vp_in (gF z7 42 b1.toNatClampNeg) 41 ∧ P (gG z7 48 (gF z7 42 b1.toNatClampNeg).toNatClampNeg) z7))) ∧ (¬ (v5 < 0) → (wp_X7_choose b1 (b2 + v5) (v5 * ((41 : Int32))) z7 (fun z9 => ((¬ ((0 : Int32)) < 0 ∧ ¬ ((0 : Int32)) < 0 ∧ ¬ ((41 : Int32)) < 0 ∧ ((0 : Int32)).toNatClampNeg + ((41 : Int32)).toNatClampNeg ≤ 41 ∧ ((0 : Int32)).toNatClampNeg + ((41 : Int32)).toNatClampNeg ≤ 41) ∧ (∀ z11 : St, z11 = wL z9 48 (va_cpy (gG z9 47) (gG z9 48) ((0 : Int32)).toNatClampNeg ((0 : Int32)).toNatClampNeg ((41 : Int32)).toNatClampNeg) → (∀ x12 : Int32, x12 = v5 + (-1) → K6 x12 z11))))))) → K6 v5 z7) → (∀ x13 : Int32, x13 = b3 - ((1 : Int32)) → K6 x13 z3))) ∧ (¬ ((gF z3 41 b1.toNatClampNeg) < v1) → (∀ K16 : Int64 → Int32 → Prop, (∀ (s14 : Int64) (s15 : Int32), (vp_in s15 41 ∧ (∀ z17 : St, z17 = wL z3 48 (vp_updL (gG z3 48) s15.toNatClampNeg s14) → (∀ x18 : Int32, x18 = v1 + (1) → K2 x18 z17))) → K16 s14 s15) → (((v1 < b4) → K16 ((1000000000000000000 : Int64)) v1) ∧ (¬ (v1 < b4) → K16 ((0 : Int64)) v1)))))) → K2 v1 z3) → K2 ((0 : Int32)) z)
set_option maxHeartbeats 4000000 in
set_option maxRecDepth 100000 in
theorem m_X7_cheapest (l : Launch) (D : va_G) (t : Ty3) (a : Nat → Nat) (b1 : Int32) (b2 : Int32) (b3 : Int32) (b4 : Int32) (z : St) (P : Int64 → St → Prop) (hw : wp_X7_cheapest b1 b2 b3 b4 z P) : CtL l D t yX7_cheapest cX7_cheapest 6 (some .long) 3 (wX t a) (wX t a z) [.ref (a 39), .int b1, .int b2, .int b3, .int b4] P := by
  refine ctL_of (by decide) (Nat.le_of_ble_eq_true rfl) ?_
  intro p e s m args below meth c A ls C hr hlk h hl
  have hl : lv_has ls 6 [(0, .ref (a 39)), (1, .int b1), (2, .int b2), (3, .int b3), (4, .int b4)] := hl
  unfold wp_X7_cheapest at hw
  refine lv_iconst (v := 0) (pc := 0) C.1 C.2.1 dX7_cheapest_0 (by decide) ?_
  have hw := hw (fun (v1 : Int32) (z3 : St) => ∀ (H : Heap) (locs : List Loc) (ls : Array Slot), wd D t A s (wX t a z3) H locs → lv_has ls 6 [(0, .ref (a 39)), (1, .int b1), (2, .int b2), (3, .int b3), (4, .int b4), (5, .int v1)] → W p l e (rmd 3) s m args below meth c H locs 0 0 (QL D t A (wX t a) P below args s) (F0 m 3 ls [])) (by
      intro v1 z3 hw H locs ls h hl
      refine lv_iload (pc := 3) C.1 C.2.1 dX7_cheapest_3 (lv_at hl 5 rfl) ?_
      refine lv_aload_n (pc := 5) C.1 C.2.1 dX7_cheapest_5 rfl (lv_at hl 0 rfl) ?_
      refine GX_X7_15_39 (pc := 6) C h dX7_cheapest_6 ?_
      refine lv_iload_n (pc := 9) C.1 C.2.1 dX7_cheapest_9 rfl (lv_at hl 1 rfl) ?_
      refine ldX_41 (pc := 10) C h hw.1 dX7_cheapest_10 ?_
      have hw := hw.2
      refine lv_icmp_gt (tgt := 41) (pc := 11) C.1 C.2.1 dX7_cheapest_11 (by decide) (fun c4 => ?_) (fun c4 => ?_)
      · have hw := hw.1 c4
        refine lv_iload_n (pc := 41) C.1 C.2.1 dX7_cheapest_41 rfl (lv_at hl 3 rfl) ?_
        refine lv_iconst (v := 1) (pc := 42) C.1 C.2.1 dX7_cheapest_42 (by decide) ?_
        refine lv_isub (pc := 43) C.1 C.2.1 dX7_cheapest_43 ?_
        have hw := hw (fun (v5 : Int32) (z7 : St) => ∀ (H : Heap) (locs : List Loc) (ls : Array Slot), wd D t A s (wX t a z7) H locs → lv_has ls 6 [(0, .ref (a 39)), (1, .int b1), (2, .int b2), (5, .int v5)] → W p l e (rmd 3) s m args below meth c H locs 0 0 (QL D t A (wX t a) P below args s) (F0 m 46 ls [])) (by
            intro v5 z7 hw H locs ls h hl
            refine lv_iload (pc := 46) C.1 C.2.1 dX7_cheapest_46 (lv_at hl 3 rfl) ?_
            refine lv_if_lt (tgt := 86) (pc := 48) C.1 C.2.1 dX7_cheapest_48 (by decide) (fun c8 => ?_) (fun c8 => ?_)
            · have hw := hw.1 c8
              refine lv_aload_n (pc := 86) C.1 C.2.1 dX7_cheapest_86 rfl (lv_at hl 0 rfl) ?_
              refine GX_X7_37_39 (pc := 87) C h dX7_cheapest_87 ?_
              refine lv_aload_n (pc := 90) C.1 C.2.1 dX7_cheapest_90 rfl (lv_at hl 0 rfl) ?_
              refine GX_X7_18_39 (pc := 91) C h dX7_cheapest_91 ?_
              refine lv_iload_n (pc := 94) C.1 C.2.1 dX7_cheapest_94 rfl (lv_at hl 1 rfl) ?_
              refine ldX_42 (pc := 95) C h hw.1 dX7_cheapest_95 ?_
              have hw := hw.2
              refine ldX_48 (pc := 96) C h hw.1 dX7_cheapest_96 ?_
              have hw := hw.2
              exact rt_l (pc := 97) C hr hlk h hw dX7_cheapest_97
            · have hw := hw.2 c8
              refine lv_aload_n (pc := 51) C.1 C.2.1 dX7_cheapest_51 rfl (lv_at hl 0 rfl) ?_
              refine lv_iload_n (pc := 52) C.1 C.2.1 dX7_cheapest_52 rfl (lv_at hl 1 rfl) ?_
              refine lv_iload_n (pc := 53) C.1 C.2.1 dX7_cheapest_53 rfl (lv_at hl 2 rfl) ?_
              refine lv_iload (pc := 54) C.1 C.2.1 dX7_cheapest_54 (lv_at hl 3 rfl) ?_
              refine lv_iadd (pc := 56) C.1 C.2.1 dX7_cheapest_56 ?_
              refine lv_iload (pc := 57) C.1 C.2.1 dX7_cheapest_57 (lv_at hl 3 rfl) ?_
              refine lv_bipush (v := 41) (pc := 59) C.1 C.2.1 dX7_cheapest_59 (by decide) ?_
              refine lv_imul (pc := 61) C.1 C.2.1 dX7_cheapest_61 ?_
              refine cl_vv (pc := 62) (As := [.int b1, .int (b2 + v5), .int (v5 * ((41 : Int32)))]) (rest := []) C h (m_X7_choose l D t a b1 (b2 + v5) (v5 * ((41 : Int32))) z7 _ hw) mw_X7_choose lm_X7_70 md_X7_choose rcX_39 ⟨by decide, by decide⟩ ⟨Nat.zero_le _, Nat.zero_le _⟩ hl.1 rfl (Nat.le_of_ble_eq_true rfl) dX7_cheapest_62 (fun z9 H locs hw h => ?_)
              refine lv_aload_n (pc := 65) C.1 C.2.1 dX7_cheapest_65 rfl (lv_at hl 0 rfl) ?_
              refine GX_X7_33_39 (pc := 66) C h dX7_cheapest_66 ?_
              refine lv_iconst (v := 0) (pc := 69) C.1 C.2.1 dX7_cheapest_69 (by decide) ?_
              refine lv_aload_n (pc := 70) C.1 C.2.1 dX7_cheapest_70 rfl (lv_at hl 0 rfl) ?_
              refine GX_X7_37_39 (pc := 71) C h dX7_cheapest_71 ?_
              refine lv_iconst (v := 0) (pc := 74) C.1 C.2.1 dX7_cheapest_74 (by decide) ?_
              refine lv_bipush (v := 41) (pc := 75) C.1 C.2.1 dX7_cheapest_75 (by decide) ?_
              refine cpX_47_48 (pc := 77) C lm_X7_74 h hw.1 ⟨by decide, by decide⟩ hl.1 (Nat.le_of_ble_eq_true rfl) dX7_cheapest_77 (fun z11 ez11 H locs h => ?_)
              have hw := hw.2 z11 ez11
              obtain ⟨x12, ex12⟩ : ∃ y : Int32, y = v5 + (-1) := ⟨_, rfl⟩
              have hw := hw x12 ex12
              refine lv_iinc (v := x12) (lv' := [(5, .int x12), (0, .ref (a 39)), (1, .int b1), (2, .int b2)]) (pc := 80) C.1 C.2.1 dX7_cheapest_80 hl (k := 3) rfl (by rw [ex12]; rfl) (by decide) rfl (fun ls hl => ?_)
              refine lv_goto (tgt := 46) (pc := 83) C.1 C.2.1 dX7_cheapest_83 (by decide) ?_
              exact hw _ _ _ h (lv_sub hl [1, 2, 3, 0] rfl))
        refine lv_topi (fun x13 ex13 => ?_)
        have hw := hw x13 ex13
        refine lv_istore (lv' := [(5, .int x13), (0, .ref (a 39)), (1, .int b1), (2, .int b2), (3, .int b3), (4, .int b4)]) (pc := 44) C.1 C.2.1 dX7_cheapest_44 hl (by decide) rfl (fun ls hl => ?_)
        exact hw _ _ _ h (lv_sub hl [1, 2, 3, 0] rfl)
      · have hw := hw.2 c4
        refine lv_aload_n (pc := 14) C.1 C.2.1 dX7_cheapest_14 rfl (lv_at hl 0 rfl) ?_
        refine GX_X7_37_39 (pc := 15) C h dX7_cheapest_15 ?_
        refine lv_iload (pc := 18) C.1 C.2.1 dX7_cheapest_18 (lv_at hl 5 rfl) ?_
        refine lv_iload (pc := 20) C.1 C.2.1 dX7_cheapest_20 (lv_at hl 5 rfl) ?_
        refine lv_iload (pc := 22) C.1 C.2.1 dX7_cheapest_22 (lv_at hl 4 rfl) ?_
        have hw := hw (fun (s14 : Int64) (s15 : Int32) => ∀ (H : Heap) (locs : List Loc) (ls : Array Slot), wd D t A s (wX t a z3) H locs → lv_has ls 6 [(0, .ref (a 39)), (1, .int b1), (2, .int b2), (3, .int b3), (4, .int b4), (5, .int v1)] → W p l e (rmd 3) s m args below meth c H locs 0 0 (QL D t A (wX t a) P below args s) (F0 m 34 ls [.long s14, .int s15, .ref (a 48)])) (by
            intro s14 s15 hw H locs ls h hl
            refine stX_48 (pc := 34) C h hw.1 dX7_cheapest_34 (fun z17 ez17 H locs h => ?_)
            have hw := hw.2 z17 ez17
            obtain ⟨x18, ex18⟩ : ∃ y : Int32, y = v1 + (1) := ⟨_, rfl⟩
            have hw := hw x18 ex18
            refine lv_iinc (v := x18) (lv' := [(5, .int x18), (0, .ref (a 39)), (1, .int b1), (2, .int b2), (3, .int b3), (4, .int b4)]) (pc := 35) C.1 C.2.1 dX7_cheapest_35 hl (k := 5) rfl (by rw [ex18]; rfl) (by decide) rfl (fun ls hl => ?_)
            refine lv_goto (tgt := 3) (pc := 38) C.1 C.2.1 dX7_cheapest_38 (by decide) ?_
            exact hw _ _ _ h (lv_sub hl [1, 2, 3, 4, 5, 0] rfl))
        refine lv_icmp_lt (tgt := 31) (pc := 24) C.1 C.2.1 dX7_cheapest_24 (by decide) (fun c19 => ?_) (fun c19 => ?_)
        · have hw := hw.1 c19
          refine lv_ldc2 (pc := 31) C.1 C.2.1 C.2.2.2.1 (C.2.2.2.2 _ lc_X7_68) dX7_cheapest_31 ?_
          exact hw _ _ _ h (lv_sub hl [0, 1, 2, 3, 4, 5] rfl)
        · have hw := hw.2 c19
          refine lv_lconst (v := 0) (pc := 27) C.1 C.2.1 dX7_cheapest_27 (by decide) ?_
          refine lv_goto (tgt := 34) (pc := 28) C.1 C.2.1 dX7_cheapest_28 (by decide) ?_
          exact hw _ _ _ h (lv_sub hl [0, 1, 2, 3, 4, 5] rfl))
  refine lv_istore (lv' := [(5, .int ((0 : Int32))), (0, .ref (a 39)), (1, .int b1), (2, .int b2), (3, .int b3), (4, .int b4)]) (pc := 1) C.1 C.2.1 dX7_cheapest_1 hl (by decide) rfl (fun ls hl => ?_)
  exact hw _ _ _ h (lv_sub hl [1, 2, 3, 4, 5, 0] rfl)

def wp_X7_keep (b1 : Int32) (b2 : Int32) (z : St) (P : St → Prop) : Prop :=
  (vp_in b1 6 ∧ (∀ x1 : Int32, x1 = gF z 42 b1.toNatClampNeg → (∀ K4 : Int32 → Int32 → St → Prop, (∀ (v2 : Int32) (v3 : Int32) (z5 : St), (((b2 ≤ v3) → (∀ z7 : St, z7 = wI z5 3915 b2 → P z7)) ∧ (¬ (b2 ≤ v3) → (vp_in ((v3 * ((41 : Int32))) + v2) 1968 ∧ (vp_in v3 48 ∧ (∀ z8 : St, z8 = wR z5 50 (upd (gF z5 50) v3.toNatClampNeg (gF z5 49 ((v3 * ((41 : Int32))) + v2).toNatClampNeg)) → (vp_in v3 48 ∧ (vp_in b1 6 ∧ (∀ x9 : Int32, x9 = (if (0 : Int32) < (v2 + (gF z8 50 v3.toNatClampNeg)) - (gF z8 45 b1.toNatClampNeg) then (v2 + (gF z8 50 v3.toNatClampNeg)) - (gF z8 45 b1.toNatClampNeg) else (0 : Int32)) → (vp_in v3 48 ∧ (∀ z10 : St, z10 = wR z8 51 (upd (gF z8 51) v3.toNatClampNeg x9) → (∀ x11 : Int32, x11 = v3 + (1) → K4 x9 x11 z10))))))))))) → K4 v2 v3 z5) → K4 x1 ((0 : Int32)) z)))
set_option maxHeartbeats 4000000 in
set_option maxRecDepth 100000 in
theorem m_X7_keep (l : Launch) (D : va_G) (t : Ty3) (a : Nat → Nat) (b1 : Int32) (b2 : Int32) (z : St) (P : St → Prop) (hw : wp_X7_keep b1 b2 z P) : CtV l D t yX7_keep cX7_keep 5 none 1 (wX t a) (wX t a z) [.ref (a 39), .int b1, .int b2] P := by
  refine ctV_of (by decide) (Nat.le_of_ble_eq_true rfl) ?_
  intro p e s m args below meth c A ls C hr hlk h hl
  have hl : lv_has ls 5 [(0, .ref (a 39)), (1, .int b1), (2, .int b2)] := hl
  unfold wp_X7_keep at hw
  refine lv_aload_n (pc := 0) C.1 C.2.1 dX7_keep_0 rfl (lv_at hl 0 rfl) ?_
  refine GX_X7_18_39 (pc := 1) C h dX7_keep_1 ?_
  refine lv_iload_n (pc := 4) C.1 C.2.1 dX7_keep_4 rfl (lv_at hl 1 rfl) ?_
  refine ldX_42 (pc := 5) C h hw.1 dX7_keep_5 ?_
  have hw := hw.2
  refine lv_topi (fun x1 ex1 => ?_)
  have hw := hw x1 ex1
  refine lv_istore_n (lv' := [(3, .int x1), (0, .ref (a 39)), (1, .int b1), (2, .int b2)]) (pc := 6) C.1 C.2.1 dX7_keep_6 rfl hl (by decide) rfl (fun ls hl => ?_)
  refine lv_iconst (v := 0) (pc := 7) C.1 C.2.1 dX7_keep_7 (by decide) ?_
  have hw := hw (fun (v2 : Int32) (v3 : Int32) (z5 : St) => ∀ (H : Heap) (locs : List Loc) (ls : Array Slot), wd D t A s (wX t a z5) H locs → lv_has ls 5 [(0, .ref (a 39)), (1, .int b1), (2, .int b2), (3, .int v2), (4, .int v3)] → W p l e (rmd 1) s m args below meth c H locs 0 0 (QV D t A (wX t a) P below args s) (F0 m 10 ls [])) (by
      intro v2 v3 z5 hw H locs ls h hl
      refine lv_iload (pc := 10) C.1 C.2.1 dX7_keep_10 (lv_at hl 4 rfl) ?_
      refine lv_iload_n (pc := 12) C.1 C.2.1 dX7_keep_12 rfl (lv_at hl 2 rfl) ?_
      refine lv_icmp_ge (tgt := 70) (pc := 13) C.1 C.2.1 dX7_keep_13 (by decide) (fun c6 => ?_) (fun c6 => ?_)
      · have hw := hw.1 c6
        refine lv_aload_n (pc := 70) C.1 C.2.1 dX7_keep_70 rfl (lv_at hl 0 rfl) ?_
        refine lv_iload_n (pc := 71) C.1 C.2.1 dX7_keep_71 rfl (lv_at hl 2 rfl) ?_
        refine PX_X7_61_39 (pc := 72) C h dX7_keep_72 (fun z7 ez7 H locs h => ?_)
        have hw := hw z7 ez7
        exact rt_v (pc := 75) C hr hlk h hw dX7_keep_75
      · have hw := hw.2 c6
        refine lv_aload_n (pc := 16) C.1 C.2.1 dX7_keep_16 rfl (lv_at hl 0 rfl) ?_
        refine GX_X7_43_39 (pc := 17) C h dX7_keep_17 ?_
        refine lv_iload (pc := 20) C.1 C.2.1 dX7_keep_20 (lv_at hl 4 rfl) ?_
        refine lv_aload_n (pc := 22) C.1 C.2.1 dX7_keep_22 rfl (lv_at hl 0 rfl) ?_
        refine GX_X7_40_39 (pc := 23) C h dX7_keep_23 ?_
        refine lv_iload (pc := 26) C.1 C.2.1 dX7_keep_26 (lv_at hl 4 rfl) ?_
        refine lv_bipush (v := 41) (pc := 28) C.1 C.2.1 dX7_keep_28 (by decide) ?_
        refine lv_imul (pc := 30) C.1 C.2.1 dX7_keep_30 ?_
        refine lv_iload_n (pc := 31) C.1 C.2.1 dX7_keep_31 rfl (lv_at hl 3 rfl) ?_
        refine lv_iadd (pc := 32) C.1 C.2.1 dX7_keep_32 ?_
        refine ldX_49 (pc := 33) C h hw.1 dX7_keep_33 ?_
        have hw := hw.2
        refine stX_50 (pc := 34) C h hw.1 dX7_keep_34 (fun z8 ez8 H locs h => ?_)
        have hw := hw.2 z8 ez8
        refine lv_iconst (v := 0) (pc := 35) C.1 C.2.1 dX7_keep_35 (by decide) ?_
        refine lv_iload_n (pc := 36) C.1 C.2.1 dX7_keep_36 rfl (lv_at hl 3 rfl) ?_
        refine lv_aload_n (pc := 37) C.1 C.2.1 dX7_keep_37 rfl (lv_at hl 0 rfl) ?_
        refine GX_X7_43_39 (pc := 38) C h dX7_keep_38 ?_
        refine lv_iload (pc := 41) C.1 C.2.1 dX7_keep_41 (lv_at hl 4 rfl) ?_
        refine ldX_50 (pc := 43) C h hw.1 dX7_keep_43 ?_
        have hw := hw.2
        refine lv_iadd (pc := 44) C.1 C.2.1 dX7_keep_44 ?_
        refine lv_aload_n (pc := 45) C.1 C.2.1 dX7_keep_45 rfl (lv_at hl 0 rfl) ?_
        refine GX_X7_27_39 (pc := 46) C h dX7_keep_46 ?_
        refine lv_iload_n (pc := 49) C.1 C.2.1 dX7_keep_49 rfl (lv_at hl 1 rfl) ?_
        refine ldX_45 (pc := 50) C h hw.1 dX7_keep_50 ?_
        have hw := hw.2
        refine lv_isub (pc := 51) C.1 C.2.1 dX7_keep_51 ?_
        refine r_max (pc := 52) C lm_X7_92 m1_max m2_max m3_max ⟨by decide, by decide⟩ ⟨Nat.zero_le _, Nat.zero_le _⟩ hl.1 (Nat.le_of_ble_eq_true rfl) dX7_keep_52 ?_
        refine lv_topi (fun x9 ex9 => ?_)
        have hw := hw x9 ex9
        refine lv_istore_n (lv' := [(3, .int x9), (0, .ref (a 39)), (1, .int b1), (2, .int b2), (4, .int v3)]) (pc := 55) C.1 C.2.1 dX7_keep_55 rfl hl (by decide) rfl (fun ls hl => ?_)
        refine lv_aload_n (pc := 56) C.1 C.2.1 dX7_keep_56 rfl (lv_at hl 1 rfl) ?_
        refine GX_X7_46_39 (pc := 57) C h dX7_keep_57 ?_
        refine lv_iload (pc := 60) C.1 C.2.1 dX7_keep_60 (lv_at hl 4 rfl) ?_
        refine lv_iload_n (pc := 62) C.1 C.2.1 dX7_keep_62 rfl (lv_at hl 0 rfl) ?_
        refine stX_51 (pc := 63) C h hw.1 dX7_keep_63 (fun z10 ez10 H locs h => ?_)
        have hw := hw.2 z10 ez10
        obtain ⟨x11, ex11⟩ : ∃ y : Int32, y = v3 + (1) := ⟨_, rfl⟩
        have hw := hw x11 ex11
        refine lv_iinc (v := x11) (lv' := [(4, .int x11), (3, .int x9), (0, .ref (a 39)), (1, .int b1), (2, .int b2)]) (pc := 64) C.1 C.2.1 dX7_keep_64 hl (k := 4) rfl (by rw [ex11]; rfl) (by decide) rfl (fun ls hl => ?_)
        refine lv_goto (tgt := 10) (pc := 67) C.1 C.2.1 dX7_keep_67 (by decide) ?_
        exact hw _ _ _ h (lv_sub hl [2, 3, 4, 1, 0] rfl))
  refine lv_istore (lv' := [(4, .int ((0 : Int32))), (3, .int x1), (0, .ref (a 39)), (1, .int b1), (2, .int b2)]) (pc := 8) C.1 C.2.1 dX7_keep_8 hl (by decide) rfl (fun ls hl => ?_)
  exact hw _ _ _ h (lv_sub hl [2, 3, 4, 1, 0] rfl)

def wp_X8_fill (b1 : Int32) (b2 : Int32) (b3 : Int32) (z : St) (P : Int64 → St → Prop) : Prop :=
  (∀ K1 : Prop, ((wp_X8_refuse ((-1 : Int32)) z (fun r3 z2 => P (((-4000000000000000000 : Int64)) + (Int32.toInt64 r3)) z2)) → K1) → (((b2 < ((1 : Int32))) → K1) ∧ (¬ (b2 < ((1 : Int32))) → (((((48 : Int32)) < b2) → K1) ∧ (¬ (((48 : Int32)) < b2) → (((((168 : Int32)) < ((gI z 2104) + b2)) → K1) ∧ (¬ (((168 : Int32)) < ((gI z 2104) + b2)) → (wp_X7_mostOf b1 z (fun r8 => (wp_X8_isWithin b3 r8 z (fun r10 => (((¬ r10 = 0) → (wp_X7_has b1 z (fun r13 => (((¬ r13 = 0) → (wp_X7_cheapest b1 (gI z 2104) b2 b3 z (fun r16 z15 => (((¬ (lg_cmp r16 ((1000000000000000000 : Int64))) = 0) → (wp_X7_keep b1 b2 z15 (fun z18 => (wp_X8_accept ((0 : Int32)) z18 (fun r21 z20 => P r16 z20))))) ∧ ((lg_cmp r16 ((1000000000000000000 : Int64))) = 0 → (wp_X8_refuse ((-6 : Int32)) z15 (fun r23 z22 => P (((-4000000000000000000 : Int64)) + (Int32.toInt64 r23)) z22))))))) ∧ (r13 = 0 → (wp_X8_refuse ((-2 : Int32)) z (fun r25 z24 => P (((-4000000000000000000 : Int64)) + (Int32.toInt64 r25)) z24))))))) ∧ (r10 = 0 → K1)))))))))))))
set_option maxHeartbeats 4000000 in
set_option maxRecDepth 100000 in
theorem m_X8_fill (l : Launch) (D : va_G) (t : Ty3) (a : Nat → Nat) (b1 : Int32) (b2 : Int32) (b3 : Int32) (z : St) (P : Int64 → St → Prop) (hw : wp_X8_fill b1 b2 b3 z P) : CtL l D t yX8_fill cX8_fill 6 (some .long) 4 (wX t a) (wX t a z) [.ref (a 0), .int b1, .int b2, .int b3] P := by
  refine ctL_of (by decide) (Nat.le_of_ble_eq_true rfl) ?_
  intro p e s m args below meth c A ls C hr hlk h hl
  have hl : lv_has ls 6 [(0, .ref (a 0)), (1, .int b1), (2, .int b2), (3, .int b3)] := hl
  unfold wp_X8_fill at hw
  refine lv_iload_n (pc := 0) C.1 C.2.1 dX8_fill_0 rfl (lv_at hl 2 rfl) ?_
  refine lv_iconst (v := 1) (pc := 1) C.1 C.2.1 dX8_fill_1 (by decide) ?_
  have hw := hw (∀ (H : Heap) (locs : List Loc) (ls : Array Slot), wd D t A s (wX t a z) H locs → lv_has ls 6 [(0, .ref (a 0))] → W p l e (rmd 4) s m args below meth c H locs 0 0 (QL D t A (wX t a) P below args s) (F0 m 41 ls [])) (by
      intro hw H locs ls h hl
      refine lv_ldc2 (pc := 41) C.1 C.2.1 C.2.2.2.1 (C.2.2.2.2 _ lc_X8_179) dX8_fill_41 ?_
      refine lv_aload_n (pc := 44) C.1 C.2.1 dX8_fill_44 rfl (lv_at hl 0 rfl) ?_
      refine lv_iconst (v := -1) (pc := 45) C.1 C.2.1 dX8_fill_45 (by decide) ?_
      refine cl_vi (pc := 46) (As := [.int ((-1 : Int32))]) (rest := [.long ((-4000000000000000000 : Int64))]) C h (m_X8_refuse l D t a ((-1 : Int32)) z _ hw) mw_X8_refuse lm_X8_81 md_X8_refuse rcX_0 ⟨by decide, by decide⟩ ⟨Nat.zero_le _, Nat.zero_le _⟩ hl.1 rfl (Nat.le_of_ble_eq_true rfl) dX8_fill_46 (fun r3 z2 H locs hw h => ?_)
      refine lv_i2l (pc := 49) C.1 C.2.1 dX8_fill_49 rfl ?_
      refine lv_ladd (pc := 50) C.1 C.2.1 dX8_fill_50 ?_
      exact rt_l (pc := 51) C hr hlk h hw dX8_fill_51)
  refine lv_icmp_lt (tgt := 41) (pc := 2) C.1 C.2.1 dX8_fill_2 (by decide) (fun c4 => ?_) (fun c4 => ?_)
  · have hw := hw.1 c4
    exact hw _ _ _ h (lv_sub hl [0] rfl)
  · have hw := hw.2 c4
    refine lv_iload_n (pc := 5) C.1 C.2.1 dX8_fill_5 rfl (lv_at hl 2 rfl) ?_
    refine lv_bipush (v := 48) (pc := 6) C.1 C.2.1 dX8_fill_6 (by decide) ?_
    refine lv_icmp_gt (tgt := 41) (pc := 8) C.1 C.2.1 dX8_fill_8 (by decide) (fun c5 => ?_) (fun c5 => ?_)
    · have hw := hw.1 c5
      exact hw _ _ _ h (lv_sub hl [0] rfl)
    · have hw := hw.2 c5
      refine lv_aload_n (pc := 11) C.1 C.2.1 dX8_fill_11 rfl (lv_at hl 0 rfl) ?_
      refine GX_X8_37_0 (pc := 12) C h dX8_fill_12 ?_
      refine GX_X8_92_21 (pc := 15) C h dX8_fill_15 ?_
      refine lv_iload_n (pc := 18) C.1 C.2.1 dX8_fill_18 rfl (lv_at hl 2 rfl) ?_
      refine lv_iadd (pc := 19) C.1 C.2.1 dX8_fill_19 ?_
      refine lv_sipush (v := 168) (pc := 20) C.1 C.2.1 dX8_fill_20 (by decide) ?_
      refine lv_icmp_gt (tgt := 41) (pc := 23) C.1 C.2.1 dX8_fill_23 (by decide) (fun c6 => ?_) (fun c6 => ?_)
      · have hw := hw.1 c6
        exact hw _ _ _ h (lv_sub hl [0] rfl)
      · have hw := hw.2 c6
        refine lv_iload_n (pc := 26) C.1 C.2.1 dX8_fill_26 rfl (lv_at hl 3 rfl) ?_
        refine lv_aload_n (pc := 27) C.1 C.2.1 dX8_fill_27 rfl (lv_at hl 0 rfl) ?_
        refine GX_X8_53_0 (pc := 28) C h dX8_fill_28 ?_
        refine lv_iload_n (pc := 31) C.1 C.2.1 dX8_fill_31 rfl (lv_at hl 1 rfl) ?_
        refine cl_vi (pc := 32) (As := [.int b1]) (rest := [.int b3]) C h (m_X7_mostOf l D t a b1 z _ hw) mw_X7_mostOf lm_X8_236 md_X7_mostOf rcX_39 ⟨by decide, by decide⟩ ⟨Nat.zero_le _, Nat.zero_le _⟩ hl.1 rfl (Nat.le_of_ble_eq_true rfl) dX8_fill_32 (fun r8 z7 H locs hw h => ?_)
        rw [hw.1] at h
        have hw := hw.2
        refine cl_si (pc := 35) (As := [.int b3, .int r8]) (rest := []) C h (m_X8_isWithin l D t a b3 r8 z _ hw) mw_X8_isWithin lm_X8_113 md_X8_isWithin ⟨by decide, by decide⟩ ⟨Nat.zero_le _, Nat.zero_le _⟩ hl.1 rfl (Nat.le_of_ble_eq_true rfl) dX8_fill_35 (fun r10 z9 H locs hw h => ?_)
        rw [hw.1] at h
        have hw := hw.2
        refine lv_if_ne (tgt := 52) (pc := 38) C.1 C.2.1 dX8_fill_38 (by decide) (fun c11 => ?_) (fun c11 => ?_)
        · have hw := hw.1 c11
          refine lv_aload_n (pc := 52) C.1 C.2.1 dX8_fill_52 rfl (lv_at hl 0 rfl) ?_
          refine GX_X8_53_0 (pc := 53) C h dX8_fill_53 ?_
          refine lv_iload_n (pc := 56) C.1 C.2.1 dX8_fill_56 rfl (lv_at hl 1 rfl) ?_
          refine cl_vi (pc := 57) (As := [.int b1]) (rest := []) C h (m_X7_has l D t a b1 z _ hw) mw_X7_has lm_X8_239 md_X7_has rcX_39 ⟨by decide, by decide⟩ ⟨Nat.zero_le _, Nat.zero_le _⟩ hl.1 rfl (Nat.le_of_ble_eq_true rfl) dX8_fill_57 (fun r13 z12 H locs hw h => ?_)
          rw [hw.1] at h
          have hw := hw.2
          refine lv_if_ne (tgt := 75) (pc := 60) C.1 C.2.1 dX8_fill_60 (by decide) (fun c14 => ?_) (fun c14 => ?_)
          · have hw := hw.1 c14
            refine lv_aload_n (pc := 75) C.1 C.2.1 dX8_fill_75 rfl (lv_at hl 0 rfl) ?_
            refine GX_X8_53_0 (pc := 76) C h dX8_fill_76 ?_
            refine lv_iload_n (pc := 79) C.1 C.2.1 dX8_fill_79 rfl (lv_at hl 1 rfl) ?_
            refine lv_aload_n (pc := 80) C.1 C.2.1 dX8_fill_80 rfl (lv_at hl 0 rfl) ?_
            refine GX_X8_37_0 (pc := 81) C h dX8_fill_81 ?_
            refine GX_X8_92_21 (pc := 84) C h dX8_fill_84 ?_
            refine lv_iload_n (pc := 87) C.1 C.2.1 dX8_fill_87 rfl (lv_at hl 2 rfl) ?_
            refine lv_iload_n (pc := 88) C.1 C.2.1 dX8_fill_88 rfl (lv_at hl 3 rfl) ?_
            refine cl_vl (pc := 89) (As := [.int b1, .int (gI z 2104), .int b2, .int b3]) (rest := []) C h (m_X7_cheapest l D t a b1 (gI z 2104) b2 b3 z _ hw) mw_X7_cheapest lm_X8_243 md_X7_cheapest rcX_39 ⟨by decide, by decide⟩ ⟨Nat.zero_le _, Nat.zero_le _⟩ hl.1 rfl (Nat.le_of_ble_eq_true rfl) dX8_fill_89 (fun r16 z15 H locs hw h => ?_)
            refine lv_lstore (lv' := [(4, .long r16), (0, .ref (a 0)), (1, .int b1), (2, .int b2), (3, .int b3)]) (pc := 92) C.1 C.2.1 dX8_fill_92 hl (by decide) rfl (fun ls hl => ?_)
            refine lv_lload (pc := 94) C.1 C.2.1 dX8_fill_94 (lv_at hl 0 rfl) ?_
            refine lv_ldc2 (pc := 96) C.1 C.2.1 C.2.2.2.1 (C.2.2.2.2 _ lc_X8_247) dX8_fill_96 ?_
            refine W.lcmp (pc := 99) C.1 C.2.1 dX8_fill_99 ?_
            refine lv_if_ne (tgt := 115) (pc := 100) C.1 C.2.1 dX8_fill_100 (by decide) (fun c17 => ?_) (fun c17 => ?_)
            · have hw := hw.1 c17
              refine lv_aload_n (pc := 115) C.1 C.2.1 dX8_fill_115 rfl (lv_at hl 1 rfl) ?_
              refine GX_X8_53_0 (pc := 116) C h dX8_fill_116 ?_
              refine lv_iload_n (pc := 119) C.1 C.2.1 dX8_fill_119 rfl (lv_at hl 2 rfl) ?_
              refine lv_iload_n (pc := 120) C.1 C.2.1 dX8_fill_120 rfl (lv_at hl 3 rfl) ?_
              refine cl_vv (pc := 121) (As := [.int b1, .int b2]) (rest := []) C h (m_X7_keep l D t a b1 b2 z15 _ hw) mw_X7_keep lm_X8_249 md_X7_keep rcX_39 ⟨by decide, by decide⟩ ⟨Nat.zero_le _, Nat.zero_le _⟩ hl.1 rfl (Nat.le_of_ble_eq_true rfl) dX8_fill_121 (fun z18 H locs hw h => ?_)
              refine lv_aload_n (pc := 124) C.1 C.2.1 dX8_fill_124 rfl (lv_at hl 1 rfl) ?_
              refine lv_iconst (v := 0) (pc := 125) C.1 C.2.1 dX8_fill_125 (by decide) ?_
              refine cl_vi (pc := 126) (As := [.int ((0 : Int32))]) (rest := []) C h (m_X8_accept l D t a ((0 : Int32)) z18 _ hw) mw_X8_accept lm_X8_99 md_X8_accept rcX_0 ⟨by decide, by decide⟩ ⟨Nat.zero_le _, Nat.zero_le _⟩ hl.1 rfl (Nat.le_of_ble_eq_true rfl) dX8_fill_126 (fun r21 z20 H locs hw h => ?_)
              refine lv_pop (pc := 129) C.1 C.2.1 dX8_fill_129 rfl ?_
              refine lv_lload (pc := 130) C.1 C.2.1 dX8_fill_130 (lv_at hl 0 rfl) ?_
              exact rt_l (pc := 132) C hr hlk h hw dX8_fill_132
            · have hw := hw.2 c17
              refine lv_ldc2 (pc := 103) C.1 C.2.1 C.2.2.2.1 (C.2.2.2.2 _ lc_X8_179) dX8_fill_103 ?_
              refine lv_aload_n (pc := 106) C.1 C.2.1 dX8_fill_106 rfl (lv_at hl 1 rfl) ?_
              refine lv_bipush (v := -6) (pc := 107) C.1 C.2.1 dX8_fill_107 (by decide) ?_
              refine cl_vi (pc := 109) (As := [.int ((-6 : Int32))]) (rest := [.long ((-4000000000000000000 : Int64))]) C h (m_X8_refuse l D t a ((-6 : Int32)) z15 _ hw) mw_X8_refuse lm_X8_81 md_X8_refuse rcX_0 ⟨by decide, by decide⟩ ⟨Nat.zero_le _, Nat.zero_le _⟩ hl.1 rfl (Nat.le_of_ble_eq_true rfl) dX8_fill_109 (fun r23 z22 H locs hw h => ?_)
              refine lv_i2l (pc := 112) C.1 C.2.1 dX8_fill_112 rfl ?_
              refine lv_ladd (pc := 113) C.1 C.2.1 dX8_fill_113 ?_
              exact rt_l (pc := 114) C hr hlk h hw dX8_fill_114
          · have hw := hw.2 c14
            refine lv_ldc2 (pc := 63) C.1 C.2.1 C.2.2.2.1 (C.2.2.2.2 _ lc_X8_179) dX8_fill_63 ?_
            refine lv_aload_n (pc := 66) C.1 C.2.1 dX8_fill_66 rfl (lv_at hl 0 rfl) ?_
            refine lv_bipush (v := -2) (pc := 67) C.1 C.2.1 dX8_fill_67 (by decide) ?_
            refine cl_vi (pc := 69) (As := [.int ((-2 : Int32))]) (rest := [.long ((-4000000000000000000 : Int64))]) C h (m_X8_refuse l D t a ((-2 : Int32)) z _ hw) mw_X8_refuse lm_X8_81 md_X8_refuse rcX_0 ⟨by decide, by decide⟩ ⟨Nat.zero_le _, Nat.zero_le _⟩ hl.1 rfl (Nat.le_of_ble_eq_true rfl) dX8_fill_69 (fun r25 z24 H locs hw h => ?_)
            refine lv_i2l (pc := 72) C.1 C.2.1 dX8_fill_72 rfl ?_
            refine lv_ladd (pc := 73) C.1 C.2.1 dX8_fill_73 ?_
            exact rt_l (pc := 74) C hr hlk h hw dX8_fill_74
        · have hw := hw.2 c11
          exact hw _ _ _ h (lv_sub hl [0] rfl)

def wp_X8_filled (b1 : Int32) (b2 : Int32) (z : St) (P : Int32 → Prop) : Prop :=
  (((b1 < 0) → P ((-1000 : Int32))) ∧ (¬ (b1 < 0) → (((b1 < (gI z 3915)) → (((¬ b2 = 0) → (((¬ b2 = ((1 : Int32))) → P ((-1000 : Int32))) ∧ (b2 = ((1 : Int32)) → (vp_in b1 48 ∧ P (gF z 51 b1.toNatClampNeg))))) ∧ (b2 = 0 → (vp_in b1 48 ∧ P (gF z 50 b1.toNatClampNeg))))) ∧ (¬ (b1 < (gI z 3915)) → P ((-1000 : Int32))))))
set_option maxHeartbeats 4000000 in
set_option maxRecDepth 100000 in
theorem m_X8_filled (l : Launch) (D : va_G) (t : Ty3) (a : Nat → Nat) (b1 : Int32) (b2 : Int32) (z : St) (P : Int32 → Prop) (hw : wp_X8_filled b1 b2 z P) : CtI l D t yX8_filled cX8_filled 3 (some .int) 0 (wX t a) (wX t a z) [.ref (a 0), .int b1, .int b2] (fun rr zz => zz = z ∧ P rr) := by
  refine ctI_of (by decide) (Nat.le_of_ble_eq_true rfl) ?_
  intro p e s m args below meth c A ls C hr hlk h hl
  have hl : lv_has ls 3 [(0, .ref (a 0)), (1, .int b1), (2, .int b2)] := hl
  unfold wp_X8_filled at hw
  refine lv_iload_n (pc := 0) C.1 C.2.1 dX8_filled_0 rfl (lv_at hl 1 rfl) ?_
  refine lv_if_lt (tgt := 15) (pc := 1) C.1 C.2.1 dX8_filled_1 (by decide) (fun c1 => ?_) (fun c1 => ?_)
  · have hw := hw.1 c1
    refine lv_sipush (v := -1000) (pc := 15) C.1 C.2.1 dX8_filled_15 (by decide) ?_
    exact rt_i (pc := 18) C hr hlk h ⟨rfl, hw⟩ dX8_filled_18
  · have hw := hw.2 c1
    refine lv_iload_n (pc := 4) C.1 C.2.1 dX8_filled_4 rfl (lv_at hl 1 rfl) ?_
    refine lv_aload_n (pc := 5) C.1 C.2.1 dX8_filled_5 rfl (lv_at hl 0 rfl) ?_
    refine GX_X8_53_0 (pc := 6) C h dX8_filled_6 ?_
    refine GX_X8_252_39 (pc := 9) C h dX8_filled_9 ?_
    refine lv_icmp_lt (tgt := 19) (pc := 12) C.1 C.2.1 dX8_filled_12 (by decide) (fun c2 => ?_) (fun c2 => ?_)
    · have hw := hw.1 c2
      refine lv_iload_n (pc := 19) C.1 C.2.1 dX8_filled_19 rfl (lv_at hl 2 rfl) ?_
      refine lv_if_ne (tgt := 33) (pc := 20) C.1 C.2.1 dX8_filled_20 (by decide) (fun c3 => ?_) (fun c3 => ?_)
      · have hw := hw.1 c3
        refine lv_iload_n (pc := 33) C.1 C.2.1 dX8_filled_33 rfl (lv_at hl 2 rfl) ?_
        refine lv_iconst (v := 1) (pc := 34) C.1 C.2.1 dX8_filled_34 (by decide) ?_
        refine lv_icmp_ne (tgt := 50) (pc := 35) C.1 C.2.1 dX8_filled_35 (by decide) (fun c4 => ?_) (fun c4 => ?_)
        · have hw := hw.1 c4
          refine lv_sipush (v := -1000) (pc := 50) C.1 C.2.1 dX8_filled_50 (by decide) ?_
          exact rt_i (pc := 53) C hr hlk h ⟨rfl, hw⟩ dX8_filled_53
        · have hw := hw.2 c4
          refine lv_aload_n (pc := 38) C.1 C.2.1 dX8_filled_38 rfl (lv_at hl 0 rfl) ?_
          refine GX_X8_53_0 (pc := 39) C h dX8_filled_39 ?_
          refine GX_X8_258_39 (pc := 42) C h dX8_filled_42 ?_
          refine lv_iload_n (pc := 45) C.1 C.2.1 dX8_filled_45 rfl (lv_at hl 1 rfl) ?_
          refine ldX_51 (pc := 46) C h hw.1 dX8_filled_46 ?_
          have hw := hw.2
          refine lv_goto (tgt := 53) (pc := 47) C.1 C.2.1 dX8_filled_47 (by decide) ?_
          exact rt_i (pc := 53) C hr hlk h ⟨rfl, hw⟩ dX8_filled_53
      · have hw := hw.2 c3
        refine lv_aload_n (pc := 23) C.1 C.2.1 dX8_filled_23 rfl (lv_at hl 0 rfl) ?_
        refine GX_X8_53_0 (pc := 24) C h dX8_filled_24 ?_
        refine GX_X8_255_39 (pc := 27) C h dX8_filled_27 ?_
        refine lv_iload_n (pc := 30) C.1 C.2.1 dX8_filled_30 rfl (lv_at hl 1 rfl) ?_
        refine ldX_50 (pc := 31) C h hw.1 dX8_filled_31 ?_
        have hw := hw.2
        exact rt_i (pc := 32) C hr hlk h ⟨rfl, hw⟩ dX8_filled_32
    · have hw := hw.2 c2
      refine lv_sipush (v := -1000) (pc := 15) C.1 C.2.1 dX8_filled_15 (by decide) ?_
      exact rt_i (pc := 18) C hr hlk h ⟨rfl, hw⟩ dX8_filled_18

def wp_X8_count (b1 : Int32) (z : St) (P : Int32 → Prop) : Prop :=
  ((b1 = 0 → P (gI z 2104)) ∧ (b1 = 1 → P (gI z 705)) ∧ (b1 = 2 → P (gI z 1308)) ∧ (b1 = 3 → P (gI z 105)) ∧ (b1 = 4 → P (gI z 3403)) ∧ (b1 = 5 → P (gI z 3909)) ∧ (b1 = 6 → P (gI z 3701)) ∧ (b1 = 7 → (wp_X1_inState ((0 : Int32)) z (fun r3 => P r3))) ∧ (b1 = 8 → (wp_X1_inState ((1 : Int32)) z (fun r5 => P r5))) ∧ (b1 = 9 → (wp_X1_inState ((2 : Int32)) z (fun r7 => P r7))) ∧ ((b1.toInt < 0 ∨ 9 < b1.toInt) → P ((-1 : Int32))))
set_option maxHeartbeats 4000000 in
set_option maxRecDepth 100000 in
theorem m_X8_count (l : Launch) (D : va_G) (t : Ty3) (a : Nat → Nat) (b1 : Int32) (z : St) (P : Int32 → Prop) (hw : wp_X8_count b1 z P) : CtI l D t yX8_count cX8_count 2 (some .int) 1 (wX t a) (wX t a z) [.ref (a 0), .int b1] (fun rr zz => zz = z ∧ P rr) := by
  refine ctI_of (by decide) (Nat.le_of_ble_eq_true rfl) ?_
  intro p e s m args below meth c A ls C hr hlk h hl
  have hl : lv_has ls 2 [(0, .ref (a 0)), (1, .int b1)] := hl
  unfold wp_X8_count at hw
  refine lv_iload_n (pc := 0) C.1 C.2.1 dX8_count_0 rfl (lv_at hl 1 rfl) ?_
  by_cases c1_0 : b1 = 0
  · have hw := hw.1 c1_0
    refine lv_tableIn (off := 55) (tgt := 56) (pc := 1) C.1 C.2.1 dX8_count_1 (by rw [c1_0]; decide) (by rw [c1_0]; decide) (by rw [c1_0]; rfl) (by decide) ?_
    refine lv_aload_n (pc := 56) C.1 C.2.1 dX8_count_56 rfl (lv_at hl 0 rfl) ?_
    refine GX_X8_37_0 (pc := 57) C h dX8_count_57 ?_
    refine GX_X8_92_21 (pc := 60) C h dX8_count_60 ?_
    exact rt_i (pc := 63) C hr hlk h ⟨rfl, hw⟩ dX8_count_63
  by_cases c1_1 : b1 = 1
  · have hw := hw.2.1 c1_1
    refine lv_tableIn (off := 63) (tgt := 64) (pc := 1) C.1 C.2.1 dX8_count_1 (by rw [c1_1]; decide) (by rw [c1_1]; decide) (by rw [c1_1]; rfl) (by decide) ?_
    refine lv_aload_n (pc := 64) C.1 C.2.1 dX8_count_64 rfl (lv_at hl 0 rfl) ?_
    refine GX_X8_19_0 (pc := 65) C h dX8_count_65 ?_
    refine GX_X8_117_7 (pc := 68) C h dX8_count_68 ?_
    exact rt_i (pc := 71) C hr hlk h ⟨rfl, hw⟩ dX8_count_71
  by_cases c1_2 : b1 = 2
  · have hw := hw.2.2.1 c1_2
    refine lv_tableIn (off := 71) (tgt := 72) (pc := 1) C.1 C.2.1 dX8_count_1 (by rw [c1_2]; decide) (by rw [c1_2]; decide) (by rw [c1_2]; rfl) (by decide) ?_
    refine lv_aload_n (pc := 72) C.1 C.2.1 dX8_count_72 rfl (lv_at hl 0 rfl) ?_
    refine GX_X8_28_0 (pc := 73) C h dX8_count_73 ?_
    refine GX_X8_134_13 (pc := 76) C h dX8_count_76 ?_
    exact rt_i (pc := 79) C hr hlk h ⟨rfl, hw⟩ dX8_count_79
  by_cases c1_3 : b1 = 3
  · have hw := hw.2.2.2.1 c1_3
    refine lv_tableIn (off := 79) (tgt := 80) (pc := 1) C.1 C.2.1 dX8_count_1 (by rw [c1_3]; decide) (by rw [c1_3]; decide) (by rw [c1_3]; rfl) (by decide) ?_
    refine lv_aload_n (pc := 80) C.1 C.2.1 dX8_count_80 rfl (lv_at hl 0 rfl) ?_
    refine GX_X8_10_0 (pc := 81) C h dX8_count_81 ?_
    refine GX_X8_85_1 (pc := 84) C h dX8_count_84 ?_
    exact rt_i (pc := 87) C hr hlk h ⟨rfl, hw⟩ dX8_count_87
  by_cases c1_4 : b1 = 4
  · have hw := hw.2.2.2.2.1 c1_4
    refine lv_tableIn (off := 87) (tgt := 88) (pc := 1) C.1 C.2.1 dX8_count_1 (by rw [c1_4]; decide) (by rw [c1_4]; decide) (by rw [c1_4]; rfl) (by decide) ?_
    refine lv_aload_n (pc := 88) C.1 C.2.1 dX8_count_88 rfl (lv_at hl 0 rfl) ?_
    refine GX_X8_37_0 (pc := 89) C h dX8_count_89 ?_
    refine GX_X8_212_21 (pc := 92) C h dX8_count_92 ?_
    refine GX_X8_215_34 (pc := 95) C h dX8_count_95 ?_
    exact rt_i (pc := 98) C hr hlk h ⟨rfl, hw⟩ dX8_count_98
  by_cases c1_5 : b1 = 5
  · have hw := hw.2.2.2.2.2.1 c1_5
    refine lv_tableIn (off := 98) (tgt := 99) (pc := 1) C.1 C.2.1 dX8_count_1 (by rw [c1_5]; decide) (by rw [c1_5]; decide) (by rw [c1_5]; rfl) (by decide) ?_
    refine lv_aload_n (pc := 99) C.1 C.2.1 dX8_count_99 rfl (lv_at hl 0 rfl) ?_
    refine GX_X8_53_0 (pc := 100) C h dX8_count_100 ?_
    refine GX_X8_229_39 (pc := 103) C h dX8_count_103 ?_
    exact rt_i (pc := 106) C hr hlk h ⟨rfl, hw⟩ dX8_count_106
  by_cases c1_6 : b1 = 6
  · have hw := hw.2.2.2.2.2.2.1 c1_6
    refine lv_tableIn (off := 106) (tgt := 107) (pc := 1) C.1 C.2.1 dX8_count_1 (by rw [c1_6]; decide) (by rw [c1_6]; decide) (by rw [c1_6]; rfl) (by decide) ?_
    refine lv_aload_n (pc := 107) C.1 C.2.1 dX8_count_107 rfl (lv_at hl 0 rfl) ?_
    refine GX_X8_44_0 (pc := 108) C h dX8_count_108 ?_
    refine GX_X8_199_37 (pc := 111) C h dX8_count_111 ?_
    exact rt_i (pc := 114) C hr hlk h ⟨rfl, hw⟩ dX8_count_114
  by_cases c1_7 : b1 = 7
  · have hw := hw.2.2.2.2.2.2.2.1 c1_7
    refine lv_tableIn (off := 114) (tgt := 115) (pc := 1) C.1 C.2.1 dX8_count_1 (by rw [c1_7]; decide) (by rw [c1_7]; decide) (by rw [c1_7]; rfl) (by decide) ?_
    refine lv_aload_n (pc := 115) C.1 C.2.1 dX8_count_115 rfl (lv_at hl 0 rfl) ?_
    refine GX_X8_28_0 (pc := 116) C h dX8_count_116 ?_
    refine lv_iconst (v := 0) (pc := 119) C.1 C.2.1 dX8_count_119 (by decide) ?_
    refine cl_vi (pc := 120) (As := [.int ((0 : Int32))]) (rest := []) C h (m_X1_inState l D t a ((0 : Int32)) z _ hw) mw_X1_inState lm_X8_176 md_X1_inState rcX_13 ⟨by decide, by decide⟩ ⟨Nat.zero_le _, Nat.zero_le _⟩ hl.1 rfl (Nat.le_of_ble_eq_true rfl) dX8_count_120 (fun r3 z2 H locs hw h => ?_)
    rw [hw.1] at h
    have hw := hw.2
    exact rt_i (pc := 123) C hr hlk h ⟨rfl, hw⟩ dX8_count_123
  by_cases c1_8 : b1 = 8
  · have hw := hw.2.2.2.2.2.2.2.2.1 c1_8
    refine lv_tableIn (off := 123) (tgt := 124) (pc := 1) C.1 C.2.1 dX8_count_1 (by rw [c1_8]; decide) (by rw [c1_8]; decide) (by rw [c1_8]; rfl) (by decide) ?_
    refine lv_aload_n (pc := 124) C.1 C.2.1 dX8_count_124 rfl (lv_at hl 0 rfl) ?_
    refine GX_X8_28_0 (pc := 125) C h dX8_count_125 ?_
    refine lv_iconst (v := 1) (pc := 128) C.1 C.2.1 dX8_count_128 (by decide) ?_
    refine cl_vi (pc := 129) (As := [.int ((1 : Int32))]) (rest := []) C h (m_X1_inState l D t a ((1 : Int32)) z _ hw) mw_X1_inState lm_X8_176 md_X1_inState rcX_13 ⟨by decide, by decide⟩ ⟨Nat.zero_le _, Nat.zero_le _⟩ hl.1 rfl (Nat.le_of_ble_eq_true rfl) dX8_count_129 (fun r5 z4 H locs hw h => ?_)
    rw [hw.1] at h
    have hw := hw.2
    exact rt_i (pc := 132) C hr hlk h ⟨rfl, hw⟩ dX8_count_132
  by_cases c1_9 : b1 = 9
  · have hw := hw.2.2.2.2.2.2.2.2.2.1 c1_9
    refine lv_tableIn (off := 132) (tgt := 133) (pc := 1) C.1 C.2.1 dX8_count_1 (by rw [c1_9]; decide) (by rw [c1_9]; decide) (by rw [c1_9]; rfl) (by decide) ?_
    refine lv_aload_n (pc := 133) C.1 C.2.1 dX8_count_133 rfl (lv_at hl 0 rfl) ?_
    refine GX_X8_28_0 (pc := 134) C h dX8_count_134 ?_
    refine lv_iconst (v := 2) (pc := 137) C.1 C.2.1 dX8_count_137 (by decide) ?_
    refine cl_vi (pc := 138) (As := [.int ((2 : Int32))]) (rest := []) C h (m_X1_inState l D t a ((2 : Int32)) z _ hw) mw_X1_inState lm_X8_176 md_X1_inState rcX_13 ⟨by decide, by decide⟩ ⟨Nat.zero_le _, Nat.zero_le _⟩ hl.1 rfl (Nat.le_of_ble_eq_true rfl) dX8_count_138 (fun r7 z6 H locs hw h => ?_)
    rw [hw.1] at h
    have hw := hw.2
    exact rt_i (pc := 141) C hr hlk h ⟨rfl, hw⟩ dX8_count_141
  have nc1_0 := lv_neT (a := 0) c1_0 (by decide)
  have nc1_1 := lv_neT (a := 1) c1_1 (by decide)
  have nc1_2 := lv_neT (a := 2) c1_2 (by decide)
  have nc1_3 := lv_neT (a := 3) c1_3 (by decide)
  have nc1_4 := lv_neT (a := 4) c1_4 (by decide)
  have nc1_5 := lv_neT (a := 5) c1_5 (by decide)
  have nc1_6 := lv_neT (a := 6) c1_6 (by decide)
  have nc1_7 := lv_neT (a := 7) c1_7 (by decide)
  have nc1_8 := lv_neT (a := 8) c1_8 (by decide)
  have nc1_9 := lv_neT (a := 9) c1_9 (by decide)
  have hdc1 : b1.toInt < 0 ∨ 9 < b1.toInt := by omega
  have hw := hw.2.2.2.2.2.2.2.2.2.2 hdc1
  refine lv_tableOut (tgt := 142) (pc := 1) C.1 C.2.1 dX8_count_1 hdc1 (by decide) ?_
  refine lv_iconst (v := -1) (pc := 142) C.1 C.2.1 dX8_count_142 (by decide) ?_
  exact rt_i (pc := 143) C hr hlk h ⟨rfl, hw⟩ dX8_count_143

def wp_X8_status  (z : St) (P : Int32 → Prop) : Prop :=
  P (gI z 8)
set_option maxHeartbeats 4000000 in
set_option maxRecDepth 100000 in
theorem m_X8_status (l : Launch) (D : va_G) (t : Ty3) (a : Nat → Nat)  (z : St) (P : Int32 → Prop) (hw : wp_X8_status z P) : CtI l D t yX8_status cX8_status 1 (some .int) 0 (wX t a) (wX t a z) [.ref (a 0)] (fun rr zz => zz = z ∧ P rr) := by
  refine ctI_of (by decide) (Nat.le_of_ble_eq_true rfl) ?_
  intro p e s m args below meth c A ls C hr hlk h hl
  have hl : lv_has ls 1 [(0, .ref (a 0))] := hl
  unfold wp_X8_status at hw
  refine lv_aload_n (pc := 0) C.1 C.2.1 dX8_status_0 rfl (lv_at hl 0 rfl) ?_
  refine GX_X8_68_0 (pc := 1) C h dX8_status_1 ?_
  exact rt_i (pc := 4) C hr hlk h ⟨rfl, hw⟩ dX8_status_4

def wp_J7_fill_53178_53 (b2 : Int32) (z : St) (P : St → Prop) : Prop :=
  (∀ K3 : Int32 → Int32 → St → Prop, (∀ (v1 : Int32) (v2 : Int32) (z4 : St), (((v2 ≤ v1) → P z4) ∧ (¬ (v2 ≤ v1) → (vp_in v1 4 ∧ (∀ z6 : St, z6 = wR z4 53 (upd (gF z4 53) v1.toNatClampNeg b2) → (∀ x7 : Int32, x7 = v1 + (1) → K3 x7 v2 z6))))) → K3 v1 v2 z4) → K3 ((0 : Int32)) ((4 : Int32)) z)
set_option maxHeartbeats 4000000 in
set_option maxRecDepth 100000 in
theorem m_J7_fill_53178_53 (l : Launch) (D : va_G) (t : Ty3) (a : Nat → Nat) (b2 : Int32) (z : St) (P : St → Prop) (hw : wp_J7_fill_53178_53 b2 z P) : CtV l D t yJ7_fill_53178 cJ7_fill_53178 4 none 0 (wX t a) (wX t a z) [.ref (a 53), .int b2] P := by
  refine ctV_of (by decide) (Nat.le_of_ble_eq_true rfl) ?_
  intro p e s m args below meth c A ls C hr hlk h hl
  have hl : lv_has ls 4 [(0, .ref (a 53)), (1, .int b2)] := hl
  unfold wp_J7_fill_53178_53 at hw
  refine lv_iconst (v := 0) (pc := 0) C.1 C.2.1 dJ7_fill_53178_0 (by decide) ?_
  refine lv_istore_n (lv' := [(2, .int ((0 : Int32))), (0, .ref (a 53)), (1, .int b2)]) (pc := 1) C.1 C.2.1 dJ7_fill_53178_1 rfl hl (by decide) rfl (fun ls hl => ?_)
  refine lv_aload_n (pc := 2) C.1 C.2.1 dJ7_fill_53178_2 rfl (lv_at hl 1 rfl) ?_
  refine r_len (pc := 3) (n := 4) (q := 53) (v := 4) C h rfl (by decide) dJ7_fill_53178_3 ?_
  have hw := hw (fun (v1 : Int32) (v2 : Int32) (z4 : St) => ∀ (H : Heap) (locs : List Loc) (ls : Array Slot), wd D t A s (wX t a z4) H locs → lv_has ls 4 [(0, .ref (a 53)), (1, .int b2), (2, .int v1), (3, .int v2)] → W p l e (rmd 0) s m args below meth c H locs 0 0 (QV D t A (wX t a) P below args s) (F0 m 5 ls [])) (by
      intro v1 v2 z4 hw H locs ls h hl
      refine lv_iload_n (pc := 5) C.1 C.2.1 dJ7_fill_53178_5 rfl (lv_at hl 2 rfl) ?_
      refine lv_iload_n (pc := 6) C.1 C.2.1 dJ7_fill_53178_6 rfl (lv_at hl 3 rfl) ?_
      refine lv_icmp_ge (tgt := 20) (pc := 7) C.1 C.2.1 dJ7_fill_53178_7 (by decide) (fun c5 => ?_) (fun c5 => ?_)
      · have hw := hw.1 c5
        exact rt_v (pc := 20) C hr hlk h hw dJ7_fill_53178_20
      · have hw := hw.2 c5
        refine lv_aload_n (pc := 10) C.1 C.2.1 dJ7_fill_53178_10 rfl (lv_at hl 0 rfl) ?_
        refine lv_iload_n (pc := 11) C.1 C.2.1 dJ7_fill_53178_11 rfl (lv_at hl 2 rfl) ?_
        refine lv_iload_n (pc := 12) C.1 C.2.1 dJ7_fill_53178_12 rfl (lv_at hl 1 rfl) ?_
        refine stX_53 (pc := 13) C h hw.1 dJ7_fill_53178_13 (fun z6 ez6 H locs h => ?_)
        have hw := hw.2 z6 ez6
        obtain ⟨x7, ex7⟩ : ∃ y : Int32, y = v1 + (1) := ⟨_, rfl⟩
        have hw := hw x7 ex7
        refine lv_iinc (v := x7) (lv' := [(2, .int x7), (0, .ref (a 53)), (1, .int b2), (3, .int v2)]) (pc := 14) C.1 C.2.1 dJ7_fill_53178_14 hl (k := 2) rfl (by rw [ex7]; rfl) (by decide) rfl (fun ls hl => ?_)
        refine lv_goto (tgt := 5) (pc := 17) C.1 C.2.1 dJ7_fill_53178_17 (by decide) ?_
        exact hw _ _ _ h (lv_sub hl [1, 2, 0, 3] rfl))
  refine lv_istore_n (lv' := [(3, .int ((4 : Int32))), (2, .int ((0 : Int32))), (0, .ref (a 53)), (1, .int b2)]) (pc := 4) C.1 C.2.1 dJ7_fill_53178_4 rfl hl (by decide) rfl (fun ls hl => ?_)
  exact hw _ _ _ h (lv_sub hl [2, 3, 1, 0] rfl)

def wp_J7_fill_53178_54 (b2 : Int32) (z : St) (P : St → Prop) : Prop :=
  (∀ K3 : Int32 → Int32 → St → Prop, (∀ (v1 : Int32) (v2 : Int32) (z4 : St), (((v2 ≤ v1) → P z4) ∧ (¬ (v2 ≤ v1) → (vp_in v1 16 ∧ (∀ z6 : St, z6 = wR z4 54 (upd (gF z4 54) v1.toNatClampNeg b2) → (∀ x7 : Int32, x7 = v1 + (1) → K3 x7 v2 z6))))) → K3 v1 v2 z4) → K3 ((0 : Int32)) ((16 : Int32)) z)
set_option maxHeartbeats 4000000 in
set_option maxRecDepth 100000 in
theorem m_J7_fill_53178_54 (l : Launch) (D : va_G) (t : Ty3) (a : Nat → Nat) (b2 : Int32) (z : St) (P : St → Prop) (hw : wp_J7_fill_53178_54 b2 z P) : CtV l D t yJ7_fill_53178 cJ7_fill_53178 4 none 0 (wX t a) (wX t a z) [.ref (a 54), .int b2] P := by
  refine ctV_of (by decide) (Nat.le_of_ble_eq_true rfl) ?_
  intro p e s m args below meth c A ls C hr hlk h hl
  have hl : lv_has ls 4 [(0, .ref (a 54)), (1, .int b2)] := hl
  unfold wp_J7_fill_53178_54 at hw
  refine lv_iconst (v := 0) (pc := 0) C.1 C.2.1 dJ7_fill_53178_0 (by decide) ?_
  refine lv_istore_n (lv' := [(2, .int ((0 : Int32))), (0, .ref (a 54)), (1, .int b2)]) (pc := 1) C.1 C.2.1 dJ7_fill_53178_1 rfl hl (by decide) rfl (fun ls hl => ?_)
  refine lv_aload_n (pc := 2) C.1 C.2.1 dJ7_fill_53178_2 rfl (lv_at hl 1 rfl) ?_
  refine r_len (pc := 3) (n := 16) (q := 54) (v := 16) C h rfl (by decide) dJ7_fill_53178_3 ?_
  have hw := hw (fun (v1 : Int32) (v2 : Int32) (z4 : St) => ∀ (H : Heap) (locs : List Loc) (ls : Array Slot), wd D t A s (wX t a z4) H locs → lv_has ls 4 [(0, .ref (a 54)), (1, .int b2), (2, .int v1), (3, .int v2)] → W p l e (rmd 0) s m args below meth c H locs 0 0 (QV D t A (wX t a) P below args s) (F0 m 5 ls [])) (by
      intro v1 v2 z4 hw H locs ls h hl
      refine lv_iload_n (pc := 5) C.1 C.2.1 dJ7_fill_53178_5 rfl (lv_at hl 2 rfl) ?_
      refine lv_iload_n (pc := 6) C.1 C.2.1 dJ7_fill_53178_6 rfl (lv_at hl 3 rfl) ?_
      refine lv_icmp_ge (tgt := 20) (pc := 7) C.1 C.2.1 dJ7_fill_53178_7 (by decide) (fun c5 => ?_) (fun c5 => ?_)
      · have hw := hw.1 c5
        exact rt_v (pc := 20) C hr hlk h hw dJ7_fill_53178_20
      · have hw := hw.2 c5
        refine lv_aload_n (pc := 10) C.1 C.2.1 dJ7_fill_53178_10 rfl (lv_at hl 0 rfl) ?_
        refine lv_iload_n (pc := 11) C.1 C.2.1 dJ7_fill_53178_11 rfl (lv_at hl 2 rfl) ?_
        refine lv_iload_n (pc := 12) C.1 C.2.1 dJ7_fill_53178_12 rfl (lv_at hl 1 rfl) ?_
        refine stX_54 (pc := 13) C h hw.1 dJ7_fill_53178_13 (fun z6 ez6 H locs h => ?_)
        have hw := hw.2 z6 ez6
        obtain ⟨x7, ex7⟩ : ∃ y : Int32, y = v1 + (1) := ⟨_, rfl⟩
        have hw := hw x7 ex7
        refine lv_iinc (v := x7) (lv' := [(2, .int x7), (0, .ref (a 54)), (1, .int b2), (3, .int v2)]) (pc := 14) C.1 C.2.1 dJ7_fill_53178_14 hl (k := 2) rfl (by rw [ex7]; rfl) (by decide) rfl (fun ls hl => ?_)
        refine lv_goto (tgt := 5) (pc := 17) C.1 C.2.1 dJ7_fill_53178_17 (by decide) ?_
        exact hw _ _ _ h (lv_sub hl [1, 2, 0, 3] rfl))
  refine lv_istore_n (lv' := [(3, .int ((16 : Int32))), (2, .int ((0 : Int32))), (0, .ref (a 54)), (1, .int b2)]) (pc := 4) C.1 C.2.1 dJ7_fill_53178_4 rfl hl (by decide) rfl (fun ls hl => ?_)
  exact hw _ _ _ h (lv_sub hl [2, 3, 1, 0] rfl)

def wp_X5_wipe_c52  (z : St) (P : St → Prop) : Prop :=
  (wp_J7_fill_53178_53 ((0 : Int32)) z (fun z1 => (wp_J7_fill_53178_54 ((0 : Int32)) z1 (fun z3 => (∀ z5 : St, z5 = wI z3 5202 ((10000 : Int32)) → (∀ z6 : St, z6 = wI z5 5203 ((0 : Int32)) → P z6))))))
set_option maxHeartbeats 4000000 in
set_option maxRecDepth 100000 in
theorem m_X5_wipe_c52 (l : Launch) (D : va_G) (t : Ty3) (a : Nat → Nat)  (z : St) (P : St → Prop) (hw : wp_X5_wipe_c52 z P) : CtV l D t yX5_wipe cX5_wipe 1 none 1 (wX t a) (wX t a z) [.ref (a 52)] P := by
  refine ctV_of (by decide) (Nat.le_of_ble_eq_true rfl) ?_
  intro p e s m args below meth c A ls C hr hlk h hl
  have hl : lv_has ls 1 [(0, .ref (a 52))] := hl
  unfold wp_X5_wipe_c52 at hw
  refine lv_aload_n (pc := 0) C.1 C.2.1 dX5_wipe_0 rfl (lv_at hl 0 rfl) ?_
  refine GX_X5_9_52 (pc := 1) C h dX5_wipe_1 ?_
  refine lv_iconst (v := 0) (pc := 4) C.1 C.2.1 dX5_wipe_4 (by decide) ?_
  refine cl_sv (pc := 5) (As := [.ref (a 53), .int ((0 : Int32))]) (rest := []) C h (m_J7_fill_53178_53 l D t a ((0 : Int32)) z _ hw) mw_J7_fill_53178 lm_X5_25 md_J7_fill_53178 ⟨by decide, by decide⟩ ⟨Nat.zero_le _, Nat.zero_le _⟩ hl.1 rfl (Nat.le_of_ble_eq_true rfl) dX5_wipe_5 (fun z1 H locs hw h => ?_)
  refine lv_aload_n (pc := 8) C.1 C.2.1 dX5_wipe_8 rfl (lv_at hl 0 rfl) ?_
  refine GX_X5_15_52 (pc := 9) C h dX5_wipe_9 ?_
  refine lv_iconst (v := 0) (pc := 12) C.1 C.2.1 dX5_wipe_12 (by decide) ?_
  refine cl_sv (pc := 13) (As := [.ref (a 54), .int ((0 : Int32))]) (rest := []) C h (m_J7_fill_53178_54 l D t a ((0 : Int32)) z1 _ hw) mw_J7_fill_53178 lm_X5_25 md_J7_fill_53178 ⟨by decide, by decide⟩ ⟨Nat.zero_le _, Nat.zero_le _⟩ hl.1 rfl (Nat.le_of_ble_eq_true rfl) dX5_wipe_13 (fun z3 H locs hw h => ?_)
  refine lv_aload_n (pc := 16) C.1 C.2.1 dX5_wipe_16 rfl (lv_at hl 0 rfl) ?_
  refine lv_sipush (v := 10000) (pc := 17) C.1 C.2.1 dX5_wipe_17 (by decide) ?_
  refine PX_X5_18_52 (pc := 20) C h dX5_wipe_20 (fun z5 ez5 H locs h => ?_)
  have hw := hw z5 ez5
  refine lv_aload_n (pc := 23) C.1 C.2.1 dX5_wipe_23 rfl (lv_at hl 0 rfl) ?_
  refine lv_iconst (v := 0) (pc := 24) C.1 C.2.1 dX5_wipe_24 (by decide) ?_
  refine PX_X5_22_52 (pc := 25) C h dX5_wipe_25 (fun z6 ez6 H locs h => ?_)
  have hw := hw z6 ez6
  exact rt_v (pc := 28) C hr hlk h hw dX5_wipe_28

def wp_X4_kindOf (b1 : Int32) (z : St) (P : Int32 → Prop) : Prop :=
  (∀ K1 : Prop, ((((b1 < ((48 : Int32))) → P ((0 : Int32))) ∧ (¬ (b1 < ((48 : Int32))) → (((((57 : Int32)) < b1) → P ((0 : Int32))) ∧ (¬ (((57 : Int32)) < b1) → P ((2 : Int32)))))) → K1) → (((b1 < ((97 : Int32))) → K1) ∧ (¬ (b1 < ((97 : Int32))) → (((((122 : Int32)) < b1) → K1) ∧ (¬ (((122 : Int32)) < b1) → P ((1 : Int32)))))))
set_option maxHeartbeats 4000000 in
set_option maxRecDepth 100000 in
theorem m_X4_kindOf (l : Launch) (D : va_G) (t : Ty3) (a : Nat → Nat) (b1 : Int32) (z : St) (P : Int32 → Prop) (hw : wp_X4_kindOf b1 z P) : CtI l D t yX4_kindOf cX4_kindOf 1 (some .int) 0 (wX t a) (wX t a z) [.int b1] (fun rr zz => zz = z ∧ P rr) := by
  refine ctI_of (by decide) (Nat.le_of_ble_eq_true rfl) ?_
  intro p e s m args below meth c A ls C hr hlk h hl
  have hl : lv_has ls 1 [(0, .int b1)] := hl
  unfold wp_X4_kindOf at hw
  refine lv_iload_n (pc := 0) C.1 C.2.1 dX4_kindOf_0 rfl (lv_at hl 0 rfl) ?_
  refine lv_bipush (v := 97) (pc := 1) C.1 C.2.1 dX4_kindOf_1 (by decide) ?_
  have hw := hw (∀ (H : Heap) (locs : List Loc) (ls : Array Slot), wd D t A s (wX t a z) H locs → lv_has ls 1 [(0, .int b1)] → W p l e (rmd 0) s m args below meth c H locs 0 0 (QI D t A (wX t a) (fun rr zz => zz = z ∧ P rr) below args s) (F0 m 14 ls [])) (by
      intro hw H locs ls h hl
      refine lv_iload_n (pc := 14) C.1 C.2.1 dX4_kindOf_14 rfl (lv_at hl 0 rfl) ?_
      refine lv_bipush (v := 48) (pc := 15) C.1 C.2.1 dX4_kindOf_15 (by decide) ?_
      refine lv_icmp_lt (tgt := 30) (pc := 17) C.1 C.2.1 dX4_kindOf_17 (by decide) (fun c2 => ?_) (fun c2 => ?_)
      · have hw := hw.1 c2
        refine lv_iconst (v := 0) (pc := 30) C.1 C.2.1 dX4_kindOf_30 (by decide) ?_
        exact rt_i (pc := 31) C hr hlk h ⟨rfl, hw⟩ dX4_kindOf_31
      · have hw := hw.2 c2
        refine lv_iload_n (pc := 20) C.1 C.2.1 dX4_kindOf_20 rfl (lv_at hl 0 rfl) ?_
        refine lv_bipush (v := 57) (pc := 21) C.1 C.2.1 dX4_kindOf_21 (by decide) ?_
        refine lv_icmp_gt (tgt := 30) (pc := 23) C.1 C.2.1 dX4_kindOf_23 (by decide) (fun c3 => ?_) (fun c3 => ?_)
        · have hw := hw.1 c3
          refine lv_iconst (v := 0) (pc := 30) C.1 C.2.1 dX4_kindOf_30 (by decide) ?_
          exact rt_i (pc := 31) C hr hlk h ⟨rfl, hw⟩ dX4_kindOf_31
        · have hw := hw.2 c3
          refine lv_iconst (v := 2) (pc := 26) C.1 C.2.1 dX4_kindOf_26 (by decide) ?_
          refine lv_goto (tgt := 31) (pc := 27) C.1 C.2.1 dX4_kindOf_27 (by decide) ?_
          exact rt_i (pc := 31) C hr hlk h ⟨rfl, hw⟩ dX4_kindOf_31)
  refine lv_icmp_lt (tgt := 14) (pc := 3) C.1 C.2.1 dX4_kindOf_3 (by decide) (fun c4 => ?_) (fun c4 => ?_)
  · have hw := hw.1 c4
    exact hw _ _ _ h (lv_sub hl [0] rfl)
  · have hw := hw.2 c4
    refine lv_iload_n (pc := 6) C.1 C.2.1 dX4_kindOf_6 rfl (lv_at hl 0 rfl) ?_
    refine lv_bipush (v := 122) (pc := 7) C.1 C.2.1 dX4_kindOf_7 (by decide) ?_
    refine lv_icmp_gt (tgt := 14) (pc := 9) C.1 C.2.1 dX4_kindOf_9 (by decide) (fun c5 => ?_) (fun c5 => ?_)
    · have hw := hw.1 c5
      exact hw _ _ _ h (lv_sub hl [0] rfl)
    · have hw := hw.2 c5
      refine lv_iconst (v := 1) (pc := 12) C.1 C.2.1 dX4_kindOf_12 (by decide) ?_
      exact rt_i (pc := 13) C hr hlk h ⟨rfl, hw⟩ dX4_kindOf_13
