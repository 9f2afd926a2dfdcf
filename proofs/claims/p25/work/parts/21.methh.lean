def wp_X4_next  (z : St) (P : St → Prop) : Prop :=
  (∀ K1 : St → Prop, (∀ (z2 : St), (∀ K3 : Prop, ((∀ z4 : St, z4 = wI z2 3703 (gI z2 3702) → ((((gI z4 3702) < (gI z4 3701)) → (vp_in (gI z4 3702) 300 ∧ (wp_X4_kindOf (gF z4 38 (gI z4 3702).toNatClampNeg) z4 (fun r7 => (∀ K8 : St → Prop, (∀ (z9 : St), (((r7 = 0) → P z9) ∧ (¬ (r7 = 0) → ((((gI z9 3701) ≤ (gI z9 3703)) → P z9) ∧ (¬ ((gI z9 3701) ≤ (gI z9 3703)) → (vp_in (gI z9 3703) 300 ∧ (wp_X4_kindOf (gF z9 38 (gI z9 3703).toNatClampNeg) z9 (fun r13 => (((¬ r13 = r7) → P z9) ∧ (r13 = r7 → (∀ z15 : St, z15 = wI z9 3703 ((gI z9 3703) + ((1 : Int32))) → K8 z15)))))))))) → K8 z9) → (∀ z16 : St, z16 = wI z4 3703 ((gI z4 3703) + ((1 : Int32))) → K8 z16)))))) ∧ (¬ ((gI z4 3702) < (gI z4 3701)) → P z4))) → K3) → ((((gI z2 3701) ≤ (gI z2 3702)) → K3) ∧ (¬ ((gI z2 3701) ≤ (gI z2 3702)) → (vp_in (gI z2 3702) 300 ∧ (((¬ (gF z2 38 (gI z2 3702).toNatClampNeg) = ((32 : Int32))) → K3) ∧ ((gF z2 38 (gI z2 3702).toNatClampNeg) = ((32 : Int32)) → (∀ z19 : St, z19 = wI z2 3702 ((gI z2 3702) + ((1 : Int32))) → K1 z19))))))) → K1 z2) → (∀ z20 : St, z20 = wI z 3702 (gI z 3703) → K1 z20))
set_option maxHeartbeats 4000000 in
set_option maxRecDepth 100000 in
theorem m_X4_next (l : Launch) (D : va_G) (t : Ty3) (a : Nat → Nat)  (z : St) (P : St → Prop) (hw : wp_X4_next z P) : CtV l D t yX4_next cX4_next 2 none 1 (wX t a) (wX t a z) [.ref (a 37)] P := by
  refine ctV_of (by decide) (Nat.le_of_ble_eq_true rfl) ?_
  intro p e s m args below meth c A ls C hr hlk h hl
  have hl : lv_has ls 2 [(0, .ref (a 37))] := hl
  unfold wp_X4_next at hw
  refine lv_aload_n (pc := 0) C.1 C.2.1 dX4_next_0 rfl (lv_at hl 0 rfl) ?_
  refine lv_aload_n (pc := 1) C.1 C.2.1 dX4_next_1 rfl (lv_at hl 0 rfl) ?_
  refine GX_X4_22_37 (pc := 2) C h dX4_next_2 ?_
  have hw := hw (fun (z2 : St) => ∀ (H : Heap) (locs : List Loc) (ls : Array Slot), wd D t A s (wX t a z2) H locs → lv_has ls 2 [(0, .ref (a 37))] → W p l e (rmd 1) s m args below meth c H locs 0 0 (QV D t A (wX t a) P below args s) (F0 m 8 ls [])) (by
      intro z2 hw H locs ls h hl
      refine lv_aload_n (pc := 8) C.1 C.2.1 dX4_next_8 rfl (lv_at hl 0 rfl) ?_
      refine GX_X4_19_37 (pc := 9) C h dX4_next_9 ?_
      refine lv_aload_n (pc := 12) C.1 C.2.1 dX4_next_12 rfl (lv_at hl 0 rfl) ?_
      refine GX_X4_15_37 (pc := 13) C h dX4_next_13 ?_
      have hw := hw (∀ (H : Heap) (locs : List Loc) (ls : Array Slot), wd D t A s (wX t a z2) H locs → lv_has ls 2 [(0, .ref (a 37))] → W p l e (rmd 1) s m args below meth c H locs 0 0 (QV D t A (wX t a) P below args s) (F0 m 46 ls [])) (by
          intro hw H locs ls h hl
          refine lv_aload_n (pc := 46) C.1 C.2.1 dX4_next_46 rfl (lv_at hl 0 rfl) ?_
          refine lv_aload_n (pc := 47) C.1 C.2.1 dX4_next_47 rfl (lv_at hl 0 rfl) ?_
          refine GX_X4_19_37 (pc := 48) C h dX4_next_48 ?_
          refine PX_X4_22_37 (pc := 51) C h dX4_next_51 (fun z4 ez4 H locs h => ?_)
          have hw := hw z4 ez4
          refine lv_aload_n (pc := 54) C.1 C.2.1 dX4_next_54 rfl (lv_at hl 0 rfl) ?_
          refine GX_X4_19_37 (pc := 55) C h dX4_next_55 ?_
          refine lv_aload_n (pc := 58) C.1 C.2.1 dX4_next_58 rfl (lv_at hl 0 rfl) ?_
          refine GX_X4_15_37 (pc := 59) C h dX4_next_59 ?_
          refine lv_icmp_lt (tgt := 66) (pc := 62) C.1 C.2.1 dX4_next_62 (by decide) (fun c5 => ?_) (fun c5 => ?_)
          · have hw := hw.1 c5
            refine lv_aload_n (pc := 66) C.1 C.2.1 dX4_next_66 rfl (lv_at hl 0 rfl) ?_
            refine GX_X4_9_37 (pc := 67) C h dX4_next_67 ?_
            refine lv_aload_n (pc := 70) C.1 C.2.1 dX4_next_70 rfl (lv_at hl 0 rfl) ?_
            refine GX_X4_19_37 (pc := 71) C h dX4_next_71 ?_
            refine ldX_38 (pc := 74) C h hw.1 dX4_next_74 ?_
            have hw := hw.2
            refine cl_si (pc := 75) (As := [.int (gF z4 38 (gI z4 3702).toNatClampNeg)]) (rest := []) C h (m_X4_kindOf l D t a (gF z4 38 (gI z4 3702).toNatClampNeg) z4 _ hw) mw_X4_kindOf lm_X4_97 md_X4_kindOf ⟨by decide, by decide⟩ ⟨Nat.zero_le _, Nat.zero_le _⟩ hl.1 rfl (Nat.le_of_ble_eq_true rfl) dX4_next_75 (fun r7 z6 H locs hw h => ?_)
            rw [hw.1] at h
            have hw := hw.2
            refine lv_istore_n (lv' := [(1, .int r7), (0, .ref (a 37))]) (pc := 78) C.1 C.2.1 dX4_next_78 rfl hl (by decide) rfl (fun ls hl => ?_)
            refine lv_aload_n (pc := 79) C.1 C.2.1 dX4_next_79 rfl (lv_at hl 1 rfl) ?_
            refine lv_dup (pc := 80) C.1 C.2.1 dX4_next_80 rfl ?_
            refine GX_X4_22_37 (pc := 81) C h dX4_next_81 ?_
            refine lv_iconst (v := 1) (pc := 84) C.1 C.2.1 dX4_next_84 (by decide) ?_
            refine lv_iadd (pc := 85) C.1 C.2.1 dX4_next_85 ?_
            have hw := hw (fun (z9 : St) => ∀ (H : Heap) (locs : List Loc) (ls : Array Slot), wd D t A s (wX t a z9) H locs → lv_has ls 2 [(0, .ref (a 37)), (1, .int r7)] → W p l e (rmd 1) s m args below meth c H locs 0 0 (QV D t A (wX t a) P below args s) (F0 m 89 ls [])) (by
                intro z9 hw H locs ls h hl
                refine lv_iload_n (pc := 89) C.1 C.2.1 dX4_next_89 rfl (lv_at hl 1 rfl) ?_
                refine lv_if_eq (tgt := 133) (pc := 90) C.1 C.2.1 dX4_next_90 (by decide) (fun c10 => ?_) (fun c10 => ?_)
                · have hw := hw.1 c10
                  exact rt_v (pc := 133) C hr hlk h hw dX4_next_133
                · have hw := hw.2 c10
                  refine lv_aload_n (pc := 93) C.1 C.2.1 dX4_next_93 rfl (lv_at hl 0 rfl) ?_
                  refine GX_X4_22_37 (pc := 94) C h dX4_next_94 ?_
                  refine lv_aload_n (pc := 97) C.1 C.2.1 dX4_next_97 rfl (lv_at hl 0 rfl) ?_
                  refine GX_X4_15_37 (pc := 98) C h dX4_next_98 ?_
                  refine lv_icmp_ge (tgt := 133) (pc := 101) C.1 C.2.1 dX4_next_101 (by decide) (fun c11 => ?_) (fun c11 => ?_)
                  · have hw := hw.1 c11
                    exact rt_v (pc := 133) C hr hlk h hw dX4_next_133
                  · have hw := hw.2 c11
                    refine lv_aload_n (pc := 104) C.1 C.2.1 dX4_next_104 rfl (lv_at hl 0 rfl) ?_
                    refine GX_X4_9_37 (pc := 105) C h dX4_next_105 ?_
                    refine lv_aload_n (pc := 108) C.1 C.2.1 dX4_next_108 rfl (lv_at hl 0 rfl) ?_
                    refine GX_X4_22_37 (pc := 109) C h dX4_next_109 ?_
                    refine ldX_38 (pc := 112) C h hw.1 dX4_next_112 ?_
                    have hw := hw.2
                    refine cl_si (pc := 113) (As := [.int (gF z9 38 (gI z9 3703).toNatClampNeg)]) (rest := []) C h (m_X4_kindOf l D t a (gF z9 38 (gI z9 3703).toNatClampNeg) z9 _ hw) mw_X4_kindOf lm_X4_97 md_X4_kindOf ⟨by decide, by decide⟩ ⟨Nat.zero_le _, Nat.zero_le _⟩ hl.1 rfl (Nat.le_of_ble_eq_true rfl) dX4_next_113 (fun r13 z12 H locs hw h => ?_)
                    rw [hw.1] at h
                    have hw := hw.2
                    refine lv_iload_n (pc := 116) C.1 C.2.1 dX4_next_116 rfl (lv_at hl 1 rfl) ?_
                    refine lv_icmp_ne (tgt := 133) (pc := 117) C.1 C.2.1 dX4_next_117 (by decide) (fun c14 => ?_) (fun c14 => ?_)
                    · have hw := hw.1 c14
                      exact rt_v (pc := 133) C hr hlk h hw dX4_next_133
                    · have hw := hw.2 c14
                      refine lv_aload_n (pc := 120) C.1 C.2.1 dX4_next_120 rfl (lv_at hl 0 rfl) ?_
                      refine lv_dup (pc := 121) C.1 C.2.1 dX4_next_121 rfl ?_
                      refine GX_X4_22_37 (pc := 122) C h dX4_next_122 ?_
                      refine lv_iconst (v := 1) (pc := 125) C.1 C.2.1 dX4_next_125 (by decide) ?_
                      refine lv_iadd (pc := 126) C.1 C.2.1 dX4_next_126 ?_
                      refine PX_X4_22_37 (pc := 127) C h dX4_next_127 (fun z15 ez15 H locs h => ?_)
                      have hw := hw z15 ez15
                      refine lv_goto (tgt := 89) (pc := 130) C.1 C.2.1 dX4_next_130 (by decide) ?_
                      exact hw _ _ _ h (lv_sub hl [0, 1] rfl))
            refine PX_X4_22_37 (pc := 86) C h dX4_next_86 (fun z16 ez16 H locs h => ?_)
            have hw := hw z16 ez16
            exact hw _ _ _ h (lv_sub hl [1, 0] rfl)
          · have hw := hw.2 c5
            exact rt_v (pc := 65) C hr hlk h hw dX4_next_65)
      refine lv_icmp_ge (tgt := 46) (pc := 16) C.1 C.2.1 dX4_next_16 (by decide) (fun c17 => ?_) (fun c17 => ?_)
      · have hw := hw.1 c17
        exact hw _ _ _ h (lv_sub hl [0] rfl)
      · have hw := hw.2 c17
        refine lv_aload_n (pc := 19) C.1 C.2.1 dX4_next_19 rfl (lv_at hl 0 rfl) ?_
        refine GX_X4_9_37 (pc := 20) C h dX4_next_20 ?_
        refine lv_aload_n (pc := 23) C.1 C.2.1 dX4_next_23 rfl (lv_at hl 0 rfl) ?_
        refine GX_X4_19_37 (pc := 24) C h dX4_next_24 ?_
        refine ldX_38 (pc := 27) C h hw.1 dX4_next_27 ?_
        have hw := hw.2
        refine lv_bipush (v := 32) (pc := 28) C.1 C.2.1 dX4_next_28 (by decide) ?_
        refine lv_icmp_ne (tgt := 46) (pc := 30) C.1 C.2.1 dX4_next_30 (by decide) (fun c18 => ?_) (fun c18 => ?_)
        · have hw := hw.1 c18
          exact hw _ _ _ h (lv_sub hl [0] rfl)
        · have hw := hw.2 c18
          refine lv_aload_n (pc := 33) C.1 C.2.1 dX4_next_33 rfl (lv_at hl 0 rfl) ?_
          refine lv_dup (pc := 34) C.1 C.2.1 dX4_next_34 rfl ?_
          refine GX_X4_19_37 (pc := 35) C h dX4_next_35 ?_
          refine lv_iconst (v := 1) (pc := 38) C.1 C.2.1 dX4_next_38 (by decide) ?_
          refine lv_iadd (pc := 39) C.1 C.2.1 dX4_next_39 ?_
          refine PX_X4_19_37 (pc := 40) C h dX4_next_40 (fun z19 ez19 H locs h => ?_)
          have hw := hw z19 ez19
          refine lv_goto (tgt := 8) (pc := 43) C.1 C.2.1 dX4_next_43 (by decide) ?_
          exact hw _ _ _ h (lv_sub hl [0] rfl))
  refine PX_X4_19_37 (pc := 5) C h dX4_next_5 (fun z20 ez20 H locs h => ?_)
  have hw := hw z20 ez20
  exact hw _ _ _ h (lv_sub hl [0] rfl)

def wp_X4_take_s0  (z : St) (P : Int32 → St → Prop) : Prop :=
  (((((gI z 3703) - (gI z 3702)) = ((5 : Int32))) → (∀ K5 : Int32 → Prop, (∀ (v4 : Int32), (((((5 : Int32)) ≤ v4) → (wp_X4_next z (fun z9 => P ((1 : Int32)) z9))) ∧ (¬ (((5 : Int32)) ≤ v4) → (vp_in ((gI z 3702) + v4) 300 ∧ (vp_in v4 5 ∧ ((((gF z 38 ((gI z 3702) + v4).toNatClampNeg) = (sch 0 v4)) → (∀ x14 : Int32, x14 = v4 + (1) → K5 x14)) ∧ (¬ ((gF z 38 ((gI z 3702) + v4).toNatClampNeg) = (sch 0 v4)) → P ((0 : Int32)) z)))))) → K5 v4) → K5 ((0 : Int32)))) ∧ (¬ (((gI z 3703) - (gI z 3702)) = ((5 : Int32))) → P ((0 : Int32)) z))
set_option maxHeartbeats 4000000 in
set_option maxRecDepth 100000 in
theorem m_X4_take_s0 (l : Launch) (D : va_G) (t : Ty3) (a : Nat → Nat)  (z : St) (P : Int32 → St → Prop) (hw : wp_X4_take_s0 z P) : CtI l D t yX4_take cX4_take 3 (some .boolean) 4 (wX t a) (wX t a z) [.ref (a 37), .ref (t.2.2.2.1 0)] P := by
  refine ctI_of (by decide) (Nat.le_of_ble_eq_true rfl) ?_
  intro p e s m args below meth c A ls C hr hlk h hl
  have hl : lv_has ls 3 [(0, .ref (a 37)), (1, .ref (t.2.2.2.1 0))] := hl
  unfold wp_X4_take_s0 at hw
  refine lv_aload_n (pc := 0) C.1 C.2.1 dX4_take_0 rfl (lv_at hl 0 rfl) ?_
  refine GX_X4_22_37 (pc := 1) C h dX4_take_1 ?_
  refine lv_aload_n (pc := 4) C.1 C.2.1 dX4_take_4 rfl (lv_at hl 0 rfl) ?_
  refine GX_X4_19_37 (pc := 5) C h dX4_take_5 ?_
  refine lv_isub (pc := 8) C.1 C.2.1 dX4_take_8 ?_
  refine lv_aload_n (pc := 9) C.1 C.2.1 dX4_take_9 rfl (lv_at hl 1 rfl) ?_
  refine cl_ti (pc := 10) (i := 0) (As := []) (rest := [.int ((gI z 3703) - (gI z 3702))]) C h (m_length l D t (wX t a) z 0 (by decide)) mw_J0_length_8abf5 lm_X4_89 md_J0_length_8abf5 (by decide) rfl ⟨by decide, by decide⟩ ⟨Nat.zero_le _, Nat.zero_le _⟩ hl.1 rfl (Nat.le_of_ble_eq_true rfl) dX4_take_10 (fun r2 z1 H locs hq h => ?_)
  rw [hq.1] at h
  have er2 : r2 = 5 := hq.2
  subst er2
  refine lv_icmp_eq (tgt := 18) (pc := 13) C.1 C.2.1 dX4_take_13 (by decide) (fun c3 => ?_) (fun c3 => ?_)
  · have hw := hw.1 c3
    refine lv_iconst (v := 0) (pc := 18) C.1 C.2.1 dX4_take_18 (by decide) ?_
    have hw := hw (fun (v4 : Int32) => ∀ (H : Heap) (locs : List Loc) (ls : Array Slot), wd D t A s (wX t a z) H locs → lv_has ls 3 [(0, .ref (a 37)), (1, .ref (t.2.2.2.1 0)), (2, .int v4)] → W p l e (rmd 4) s m args below meth c H locs 0 0 (QI D t A (wX t a) P below args s) (F0 m 20 ls [])) (by
        intro v4 hw H locs ls h hl
        refine lv_iload_n (pc := 20) C.1 C.2.1 dX4_take_20 rfl (lv_at hl 2 rfl) ?_
        refine lv_aload_n (pc := 21) C.1 C.2.1 dX4_take_21 rfl (lv_at hl 1 rfl) ?_
        refine cl_ti (pc := 22) (i := 0) (As := []) (rest := [.int v4]) C h (m_length l D t (wX t a) z 0 (by decide)) mw_J0_length_8abf5 lm_X4_89 md_J0_length_8abf5 (by decide) rfl ⟨by decide, by decide⟩ ⟨Nat.zero_le _, Nat.zero_le _⟩ hl.1 rfl (Nat.le_of_ble_eq_true rfl) dX4_take_22 (fun r7 z6 H locs hq h => ?_)
        rw [hq.1] at h
        have er7 : r7 = 5 := hq.2
        subst er7
        refine lv_icmp_ge (tgt := 55) (pc := 25) C.1 C.2.1 dX4_take_25 (by decide) (fun c8 => ?_) (fun c8 => ?_)
        · have hw := hw.1 c8
          refine lv_aload_n (pc := 55) C.1 C.2.1 dX4_take_55 rfl (lv_at hl 0 rfl) ?_
          refine cl_vv (pc := 56) (As := []) (rest := []) C h (m_X4_next l D t a z _ hw) mw_X4_next lm_X4_30 md_X4_next rcX_37 ⟨by decide, by decide⟩ ⟨Nat.zero_le _, Nat.zero_le _⟩ hl.1 rfl (Nat.le_of_ble_eq_true rfl) dX4_take_56 (fun z9 H locs hw h => ?_)
          refine lv_iconst (v := 1) (pc := 59) C.1 C.2.1 dX4_take_59 (by decide) ?_
          exact rt_z (pc := 60) C hr hlk h (Or.inr rfl) hw dX4_take_60
        · have hw := hw.2 c8
          refine lv_aload_n (pc := 28) C.1 C.2.1 dX4_take_28 rfl (lv_at hl 0 rfl) ?_
          refine GX_X4_9_37 (pc := 29) C h dX4_take_29 ?_
          refine lv_aload_n (pc := 32) C.1 C.2.1 dX4_take_32 rfl (lv_at hl 0 rfl) ?_
          refine GX_X4_19_37 (pc := 33) C h dX4_take_33 ?_
          refine lv_iload_n (pc := 36) C.1 C.2.1 dX4_take_36 rfl (lv_at hl 2 rfl) ?_
          refine lv_iadd (pc := 37) C.1 C.2.1 dX4_take_37 ?_
          refine ldX_38 (pc := 38) C h hw.1 dX4_take_38 ?_
          have hw := hw.2
          refine lv_aload_n (pc := 39) C.1 C.2.1 dX4_take_39 rfl (lv_at hl 1 rfl) ?_
          refine lv_iload_n (pc := 40) C.1 C.2.1 dX4_take_40 rfl (lv_at hl 2 rfl) ?_
          refine cl_ti (pc := 41) (i := 0) (As := [.int v4]) (rest := [.int (gF z 38 ((gI z 3702) + v4).toNatClampNeg)]) C h (m_charAt l D t (wX t a) z 0 (by decide) v4 hw.1) mw_J0_charAt_5068e lm_X4_93 md_J0_charAt_5068e (by decide) rfl ⟨by decide, by decide⟩ ⟨Nat.zero_le _, Nat.zero_le _⟩ hl.1 rfl (Nat.le_of_ble_eq_true rfl) dX4_take_41 (fun r12 z11 H locs hq h => ?_)
          rw [hq.1] at h
          have er12 := hq.2
          subst er12
          have hw := hw.2
          refine lv_icmp_eq (tgt := 49) (pc := 44) C.1 C.2.1 dX4_take_44 (by decide) (fun c13 => ?_) (fun c13 => ?_)
          · have hw := hw.1 c13
            obtain ⟨x14, ex14⟩ : ∃ y : Int32, y = v4 + (1) := ⟨_, rfl⟩
            have hw := hw x14 ex14
            refine lv_iinc (v := x14) (lv' := [(2, .int x14), (0, .ref (a 37)), (1, .ref (t.2.2.2.1 0))]) (pc := 49) C.1 C.2.1 dX4_take_49 hl (k := 2) rfl (by rw [ex14]; rfl) (by decide) rfl (fun ls hl => ?_)
            refine lv_goto (tgt := 20) (pc := 52) C.1 C.2.1 dX4_take_52 (by decide) ?_
            exact hw _ _ _ h (lv_sub hl [1, 2, 0] rfl)
          · have hw := hw.2 c13
            refine lv_iconst (v := 0) (pc := 47) C.1 C.2.1 dX4_take_47 (by decide) ?_
            exact rt_z (pc := 48) C hr hlk h (Or.inl rfl) hw dX4_take_48)
    refine lv_istore_n (lv' := [(2, .int ((0 : Int32))), (0, .ref (a 37)), (1, .ref (t.2.2.2.1 0))]) (pc := 19) C.1 C.2.1 dX4_take_19 rfl hl (by decide) rfl (fun ls hl => ?_)
    exact hw _ _ _ h (lv_sub hl [1, 2, 0] rfl)
  · have hw := hw.2 c3
    refine lv_iconst (v := 0) (pc := 16) C.1 C.2.1 dX4_take_16 (by decide) ?_
    exact rt_z (pc := 17) C hr hlk h (Or.inl rfl) hw dX4_take_17

def wp_X4_take_s1  (z : St) (P : Int32 → St → Prop) : Prop :=
  (((((gI z 3703) - (gI z 3702)) = ((4 : Int32))) → (∀ K5 : Int32 → Prop, (∀ (v4 : Int32), (((((4 : Int32)) ≤ v4) → (wp_X4_next z (fun z9 => P ((1 : Int32)) z9))) ∧ (¬ (((4 : Int32)) ≤ v4) → (vp_in ((gI z 3702) + v4) 300 ∧ (vp_in v4 4 ∧ ((((gF z 38 ((gI z 3702) + v4).toNatClampNeg) = (sch 1 v4)) → (∀ x14 : Int32, x14 = v4 + (1) → K5 x14)) ∧ (¬ ((gF z 38 ((gI z 3702) + v4).toNatClampNeg) = (sch 1 v4)) → P ((0 : Int32)) z)))))) → K5 v4) → K5 ((0 : Int32)))) ∧ (¬ (((gI z 3703) - (gI z 3702)) = ((4 : Int32))) → P ((0 : Int32)) z))
set_option maxHeartbeats 4000000 in
set_option maxRecDepth 100000 in
theorem m_X4_take_s1 (l : Launch) (D : va_G) (t : Ty3) (a : Nat → Nat)  (z : St) (P : Int32 → St → Prop) (hw : wp_X4_take_s1 z P) : CtI l D t yX4_take cX4_take 3 (some .boolean) 4 (wX t a) (wX t a z) [.ref (a 37), .ref (t.2.2.2.1 1)] P := by
  refine ctI_of (by decide) (Nat.le_of_ble_eq_true rfl) ?_
  intro p e s m args below meth c A ls C hr hlk h hl
  have hl : lv_has ls 3 [(0, .ref (a 37)), (1, .ref (t.2.2.2.1 1))] := hl
  unfold wp_X4_take_s1 at hw
  refine lv_aload_n (pc := 0) C.1 C.2.1 dX4_take_0 rfl (lv_at hl 0 rfl) ?_
  refine GX_X4_22_37 (pc := 1) C h dX4_take_1 ?_
  refine lv_aload_n (pc := 4) C.1 C.2.1 dX4_take_4 rfl (lv_at hl 0 rfl) ?_
  refine GX_X4_19_37 (pc := 5) C h dX4_take_5 ?_
  refine lv_isub (pc := 8) C.1 C.2.1 dX4_take_8 ?_
  refine lv_aload_n (pc := 9) C.1 C.2.1 dX4_take_9 rfl (lv_at hl 1 rfl) ?_
  refine cl_ti (pc := 10) (i := 1) (As := []) (rest := [.int ((gI z 3703) - (gI z 3702))]) C h (m_length l D t (wX t a) z 1 (by decide)) mw_J0_length_8abf5 lm_X4_89 md_J0_length_8abf5 (by decide) rfl ⟨by decide, by decide⟩ ⟨Nat.zero_le _, Nat.zero_le _⟩ hl.1 rfl (Nat.le_of_ble_eq_true rfl) dX4_take_10 (fun r2 z1 H locs hq h => ?_)
  rw [hq.1] at h
  have er2 : r2 = 4 := hq.2
  subst er2
  refine lv_icmp_eq (tgt := 18) (pc := 13) C.1 C.2.1 dX4_take_13 (by decide) (fun c3 => ?_) (fun c3 => ?_)
  · have hw := hw.1 c3
    refine lv_iconst (v := 0) (pc := 18) C.1 C.2.1 dX4_take_18 (by decide) ?_
    have hw := hw (fun (v4 : Int32) => ∀ (H : Heap) (locs : List Loc) (ls : Array Slot), wd D t A s (wX t a z) H locs → lv_has ls 3 [(0, .ref (a 37)), (1, .ref (t.2.2.2.1 1)), (2, .int v4)] → W p l e (rmd 4) s m args below meth c H locs 0 0 (QI D t A (wX t a) P below args s) (F0 m 20 ls [])) (by
        intro v4 hw H locs ls h hl
        refine lv_iload_n (pc := 20) C.1 C.2.1 dX4_take_20 rfl (lv_at hl 2 rfl) ?_
        refine lv_aload_n (pc := 21) C.1 C.2.1 dX4_take_21 rfl (lv_at hl 1 rfl) ?_
        refine cl_ti (pc := 22) (i := 1) (As := []) (rest := [.int v4]) C h (m_length l D t (wX t a) z 1 (by decide)) mw_J0_length_8abf5 lm_X4_89 md_J0_length_8abf5 (by decide) rfl ⟨by decide, by decide⟩ ⟨Nat.zero_le _, Nat.zero_le _⟩ hl.1 rfl (Nat.le_of_ble_eq_true rfl) dX4_take_22 (fun r7 z6 H locs hq h => ?_)
        rw [hq.1] at h
        have er7 : r7 = 4 := hq.2
        subst er7
        refine lv_icmp_ge (tgt := 55) (pc := 25) C.1 C.2.1 dX4_take_25 (by decide) (fun c8 => ?_) (fun c8 => ?_)
        · have hw := hw.1 c8
          refine lv_aload_n (pc := 55) C.1 C.2.1 dX4_take_55 rfl (lv_at hl 0 rfl) ?_
          refine cl_vv (pc := 56) (As := []) (rest := []) C h (m_X4_next l D t a z _ hw) mw_X4_next lm_X4_30 md_X4_next rcX_37 ⟨by decide, by decide⟩ ⟨Nat.zero_le _, Nat.zero_le _⟩ hl.1 rfl (Nat.le_of_ble_eq_true rfl) dX4_take_56 (fun z9 H locs hw h => ?_)
          refine lv_iconst (v := 1) (pc := 59) C.1 C.2.1 dX4_take_59 (by decide) ?_
          exact rt_z (pc := 60) C hr hlk h (Or.inr rfl) hw dX4_take_60
        · have hw := hw.2 c8
          refine lv_aload_n (pc := 28) C.1 C.2.1 dX4_take_28 rfl (lv_at hl 0 rfl) ?_
          refine GX_X4_9_37 (pc := 29) C h dX4_take_29 ?_
          refine lv_aload_n (pc := 32) C.1 C.2.1 dX4_take_32 rfl (lv_at hl 0 rfl) ?_
          refine GX_X4_19_37 (pc := 33) C h dX4_take_33 ?_
          refine lv_iload_n (pc := 36) C.1 C.2.1 dX4_take_36 rfl (lv_at hl 2 rfl) ?_
          refine lv_iadd (pc := 37) C.1 C.2.1 dX4_take_37 ?_
          refine ldX_38 (pc := 38) C h hw.1 dX4_take_38 ?_
          have hw := hw.2
          refine lv_aload_n (pc := 39) C.1 C.2.1 dX4_take_39 rfl (lv_at hl 1 rfl) ?_
          refine lv_iload_n (pc := 40) C.1 C.2.1 dX4_take_40 rfl (lv_at hl 2 rfl) ?_
          refine cl_ti (pc := 41) (i := 1) (As := [.int v4]) (rest := [.int (gF z 38 ((gI z 3702) + v4).toNatClampNeg)]) C h (m_charAt l D t (wX t a) z 1 (by decide) v4 hw.1) mw_J0_charAt_5068e lm_X4_93 md_J0_charAt_5068e (by decide) rfl ⟨by decide, by decide⟩ ⟨Nat.zero_le _, Nat.zero_le _⟩ hl.1 rfl (Nat.le_of_ble_eq_true rfl) dX4_take_41 (fun r12 z11 H locs hq h => ?_)
          rw [hq.1] at h
          have er12 := hq.2
          subst er12
          have hw := hw.2
          refine lv_icmp_eq (tgt := 49) (pc := 44) C.1 C.2.1 dX4_take_44 (by decide) (fun c13 => ?_) (fun c13 => ?_)
          · have hw := hw.1 c13
            obtain ⟨x14, ex14⟩ : ∃ y : Int32, y = v4 + (1) := ⟨_, rfl⟩
            have hw := hw x14 ex14
            refine lv_iinc (v := x14) (lv' := [(2, .int x14), (0, .ref (a 37)), (1, .ref (t.2.2.2.1 1))]) (pc := 49) C.1 C.2.1 dX4_take_49 hl (k := 2) rfl (by rw [ex14]; rfl) (by decide) rfl (fun ls hl => ?_)
            refine lv_goto (tgt := 20) (pc := 52) C.1 C.2.1 dX4_take_52 (by decide) ?_
            exact hw _ _ _ h (lv_sub hl [1, 2, 0] rfl)
          · have hw := hw.2 c13
            refine lv_iconst (v := 0) (pc := 47) C.1 C.2.1 dX4_take_47 (by decide) ?_
            exact rt_z (pc := 48) C hr hlk h (Or.inl rfl) hw dX4_take_48)
    refine lv_istore_n (lv' := [(2, .int ((0 : Int32))), (0, .ref (a 37)), (1, .ref (t.2.2.2.1 1))]) (pc := 19) C.1 C.2.1 dX4_take_19 rfl hl (by decide) rfl (fun ls hl => ?_)
    exact hw _ _ _ h (lv_sub hl [1, 2, 0] rfl)
  · have hw := hw.2 c3
    refine lv_iconst (v := 0) (pc := 16) C.1 C.2.1 dX4_take_16 (by decide) ?_
    exact rt_z (pc := 17) C hr hlk h (Or.inl rfl) hw dX4_take_17

def wp_X4_take_s2  (z : St) (P : Int32 → St → Prop) : Prop :=
  (((((gI z 3703) - (gI z 3702)) = ((3 : Int32))) → (∀ K5 : Int32 → Prop, (∀ (v4 : Int32), (((((3 : Int32)) ≤ v4) → (wp_X4_next z (fun z9 => P ((1 : Int32)) z9))) ∧ (¬ (((3 : Int32)) ≤ v4) → (vp_in ((gI z 3702) + v4) 300 ∧ (vp_in v4 3 ∧ ((((gF z 38 ((gI z 3702) + v4).toNatClampNeg) = (sch 2 v4)) → (∀ x14 : Int32, x14 = v4 + (1) → K5 x14)) ∧ (¬ ((gF z 38 ((gI z 3702) + v4).toNatClampNeg) = (sch 2 v4)) → P ((0 : Int32)) z)))))) → K5 v4) → K5 ((0 : Int32)))) ∧ (¬ (((gI z 3703) - (gI z 3702)) = ((3 : Int32))) → P ((0 : Int32)) z))
set_option maxHeartbeats 4000000 in
set_option maxRecDepth 100000 in
theorem m_X4_take_s2 (l : Launch) (D : va_G) (t : Ty3) (a : Nat → Nat)  (z : St) (P : Int32 → St → Prop) (hw : wp_X4_take_s2 z P) : CtI l D t yX4_take cX4_take 3 (some .boolean) 4 (wX t a) (wX t a z) [.ref (a 37), .ref (t.2.2.2.1 2)] P := by
  refine ctI_of (by decide) (Nat.le_of_ble_eq_true rfl) ?_
  intro p e s m args below meth c A ls C hr hlk h hl
  have hl : lv_has ls 3 [(0, .ref (a 37)), (1, .ref (t.2.2.2.1 2))] := hl
  unfold wp_X4_take_s2 at hw
  refine lv_aload_n (pc := 0) C.1 C.2.1 dX4_take_0 rfl (lv_at hl 0 rfl) ?_
  refine GX_X4_22_37 (pc := 1) C h dX4_take_1 ?_
  refine lv_aload_n (pc := 4) C.1 C.2.1 dX4_take_4 rfl (lv_at hl 0 rfl) ?_
  refine GX_X4_19_37 (pc := 5) C h dX4_take_5 ?_
  refine lv_isub (pc := 8) C.1 C.2.1 dX4_take_8 ?_
  refine lv_aload_n (pc := 9) C.1 C.2.1 dX4_take_9 rfl (lv_at hl 1 rfl) ?_
  refine cl_ti (pc := 10) (i := 2) (As := []) (rest := [.int ((gI z 3703) - (gI z 3702))]) C h (m_length l D t (wX t a) z 2 (by decide)) mw_J0_length_8abf5 lm_X4_89 md_J0_length_8abf5 (by decide) rfl ⟨by decide, by decide⟩ ⟨Nat.zero_le _, Nat.zero_le _⟩ hl.1 rfl (Nat.le_of_ble_eq_true rfl) dX4_take_10 (fun r2 z1 H locs hq h => ?_)
  rw [hq.1] at h
  have er2 : r2 = 3 := hq.2
  subst er2
  refine lv_icmp_eq (tgt := 18) (pc := 13) C.1 C.2.1 dX4_take_13 (by decide) (fun c3 => ?_) (fun c3 => ?_)
  · have hw := hw.1 c3
    refine lv_iconst (v := 0) (pc := 18) C.1 C.2.1 dX4_take_18 (by decide) ?_
    have hw := hw (fun (v4 : Int32) => ∀ (H : Heap) (locs : List Loc) (ls : Array Slot), wd D t A s (wX t a z) H locs → lv_has ls 3 [(0, .ref (a 37)), (1, .ref (t.2.2.2.1 2)), (2, .int v4)] → W p l e (rmd 4) s m args below meth c H locs 0 0 (QI D t A (wX t a) P below args s) (F0 m 20 ls [])) (by
        intro v4 hw H locs ls h hl
        refine lv_iload_n (pc := 20) C.1 C.2.1 dX4_take_20 rfl (lv_at hl 2 rfl) ?_
        refine lv_aload_n (pc := 21) C.1 C.2.1 dX4_take_21 rfl (lv_at hl 1 rfl) ?_
        refine cl_ti (pc := 22) (i := 2) (As := []) (rest := [.int v4]) C h (m_length l D t (wX t a) z 2 (by decide)) mw_J0_length_8abf5 lm_X4_89 md_J0_length_8abf5 (by decide) rfl ⟨by decide, by decide⟩ ⟨Nat.zero_le _, Nat.zero_le _⟩ hl.1 rfl (Nat.le_of_ble_eq_true rfl) dX4_take_22 (fun r7 z6 H locs hq h => ?_)
        rw [hq.1] at h
        have er7 : r7 = 3 := hq.2
        subst er7
        refine lv_icmp_ge (tgt := 55) (pc := 25) C.1 C.2.1 dX4_take_25 (by decide) (fun c8 => ?_) (fun c8 => ?_)
        · have hw := hw.1 c8
          refine lv_aload_n (pc := 55) C.1 C.2.1 dX4_take_55 rfl (lv_at hl 0 rfl) ?_
          refine cl_vv (pc := 56) (As := []) (rest := []) C h (m_X4_next l D t a z _ hw) mw_X4_next lm_X4_30 md_X4_next rcX_37 ⟨by decide, by decide⟩ ⟨Nat.zero_le _, Nat.zero_le _⟩ hl.1 rfl (Nat.le_of_ble_eq_true rfl) dX4_take_56 (fun z9 H locs hw h => ?_)
          refine lv_iconst (v := 1) (pc := 59) C.1 C.2.1 dX4_take_59 (by decide) ?_
          exact rt_z (pc := 60) C hr hlk h (Or.inr rfl) hw dX4_take_60
        · have hw := hw.2 c8
          refine lv_aload_n (pc := 28) C.1 C.2.1 dX4_take_28 rfl (lv_at hl 0 rfl) ?_
          refine GX_X4_9_37 (pc := 29) C h dX4_take_29 ?_
          refine lv_aload_n (pc := 32) C.1 C.2.1 dX4_take_32 rfl (lv_at hl 0 rfl) ?_
          refine GX_X4_19_37 (pc := 33) C h dX4_take_33 ?_
          refine lv_iload_n (pc := 36) C.1 C.2.1 dX4_take_36 rfl (lv_at hl 2 rfl) ?_
          refine lv_iadd (pc := 37) C.1 C.2.1 dX4_take_37 ?_
          refine ldX_38 (pc := 38) C h hw.1 dX4_take_38 ?_
          have hw := hw.2
          refine lv_aload_n (pc := 39) C.1 C.2.1 dX4_take_39 rfl (lv_at hl 1 rfl) ?_
          refine lv_iload_n (pc := 40) C.1 C.2.1 dX4_take_40 rfl (lv_at hl 2 rfl) ?_
          refine cl_ti (pc := 41) (i := 2) (As := [.int v4]) (rest := [.int (gF z 38 ((gI z 3702) + v4).toNatClampNeg)]) C h (m_charAt l D t (wX t a) z 2 (by decide) v4 hw.1) mw_J0_charAt_5068e lm_X4_93 md_J0_charAt_5068e (by decide) rfl ⟨by decide, by decide⟩ ⟨Nat.zero_le _, Nat.zero_le _⟩ hl.1 rfl (Nat.le_of_ble_eq_true rfl) dX4_take_41 (fun r12 z11 H locs hq h => ?_)
          rw [hq.1] at h
          have er12 := hq.2
          subst er12
          have hw := hw.2
          refine lv_icmp_eq (tgt := 49) (pc := 44) C.1 C.2.1 dX4_take_44 (by decide) (fun c13 => ?_) (fun c13 => ?_)
          · have hw := hw.1 c13
            obtain ⟨x14, ex14⟩ : ∃ y : Int32, y = v4 + (1) := ⟨_, rfl⟩
            have hw := hw x14 ex14
            refine lv_iinc (v := x14) (lv' := [(2, .int x14), (0, .ref (a 37)), (1, .ref (t.2.2.2.1 2))]) (pc := 49) C.1 C.2.1 dX4_take_49 hl (k := 2) rfl (by rw [ex14]; rfl) (by decide) rfl (fun ls hl => ?_)
            refine lv_goto (tgt := 20) (pc := 52) C.1 C.2.1 dX4_take_52 (by decide) ?_
            exact hw _ _ _ h (lv_sub hl [1, 2, 0] rfl)
          · have hw := hw.2 c13
            refine lv_iconst (v := 0) (pc := 47) C.1 C.2.1 dX4_take_47 (by decide) ?_
            exact rt_z (pc := 48) C hr hlk h (Or.inl rfl) hw dX4_take_48)
    refine lv_istore_n (lv' := [(2, .int ((0 : Int32))), (0, .ref (a 37)), (1, .ref (t.2.2.2.1 2))]) (pc := 19) C.1 C.2.1 dX4_take_19 rfl hl (by decide) rfl (fun ls hl => ?_)
    exact hw _ _ _ h (lv_sub hl [1, 2, 0] rfl)
  · have hw := hw.2 c3
    refine lv_iconst (v := 0) (pc := 16) C.1 C.2.1 dX4_take_16 (by decide) ?_
    exact rt_z (pc := 17) C hr hlk h (Or.inl rfl) hw dX4_take_17

def wp_X4_number  (z : St) (P : Int32 → Prop) : Prop :=
  ((((gI z 3701) ≤ (gI z 3702)) → P ((-1 : Int32))) ∧ (¬ ((gI z 3701) ≤ (gI z 3702)) → (vp_in (gI z 3702) 300 ∧ (wp_X4_kindOf (gF z 38 (gI z 3702).toNatClampNeg) z (fun r3 => (((r3 = ((2 : Int32))) → (∀ K7 : Int32 → Int32 → Prop, (∀ (v5 : Int32) (v6 : Int32), ((((gI z 3703) ≤ v6) → P v5) ∧ (¬ ((gI z 3703) ≤ v6) → (vp_in v6 300 ∧ (∀ x9 : Int32, x9 = (if ((v5 * ((10 : Int32))) + (gF z 38 v6.toNatClampNeg)) - ((48 : Int32)) < (100000 : Int32) then ((v5 * ((10 : Int32))) + (gF z 38 v6.toNatClampNeg)) - ((48 : Int32)) else (100000 : Int32)) → (∀ x10 : Int32, x10 = v6 + (1) → K7 x9 x10))))) → K7 v5 v6) → (∀ x11 : Int32, x11 = gI z 3702 → K7 ((0 : Int32)) x11))) ∧ (¬ (r3 = ((2 : Int32))) → P ((-1 : Int32)))))))))
set_option maxHeartbeats 4000000 in
set_option maxRecDepth 100000 in
theorem m_X4_number (l : Launch) (D : va_G) (t : Ty3) (a : Nat → Nat)  (z : St) (P : Int32 → Prop) (hw : wp_X4_number z P) : CtI l D t yX4_number cX4_number 3 (some .int) 1 (wX t a) (wX t a z) [.ref (a 37)] (fun rr zz => zz = z ∧ P rr) := by
  refine ctI_of (by decide) (Nat.le_of_ble_eq_true rfl) ?_
  intro p e s m args below meth c A ls C hr hlk h hl
  have hl : lv_has ls 3 [(0, .ref (a 37))] := hl
  unfold wp_X4_number at hw
  refine lv_aload_n (pc := 0) C.1 C.2.1 dX4_number_0 rfl (lv_at hl 0 rfl) ?_
  refine GX_X4_19_37 (pc := 1) C h dX4_number_1 ?_
  refine lv_aload_n (pc := 4) C.1 C.2.1 dX4_number_4 rfl (lv_at hl 0 rfl) ?_
  refine GX_X4_15_37 (pc := 5) C h dX4_number_5 ?_
  refine lv_icmp_ge (tgt := 27) (pc := 8) C.1 C.2.1 dX4_number_8 (by decide) (fun c1 => ?_) (fun c1 => ?_)
  · have hw := hw.1 c1
    refine lv_iconst (v := -1) (pc := 27) C.1 C.2.1 dX4_number_27 (by decide) ?_
    exact rt_i (pc := 28) C hr hlk h ⟨rfl, hw⟩ dX4_number_28
  · have hw := hw.2 c1
    refine lv_aload_n (pc := 11) C.1 C.2.1 dX4_number_11 rfl (lv_at hl 0 rfl) ?_
    refine GX_X4_9_37 (pc := 12) C h dX4_number_12 ?_
    refine lv_aload_n (pc := 15) C.1 C.2.1 dX4_number_15 rfl (lv_at hl 0 rfl) ?_
    refine GX_X4_19_37 (pc := 16) C h dX4_number_16 ?_
    refine ldX_38 (pc := 19) C h hw.1 dX4_number_19 ?_
    have hw := hw.2
    refine cl_si (pc := 20) (As := [.int (gF z 38 (gI z 3702).toNatClampNeg)]) (rest := []) C h (m_X4_kindOf l D t a (gF z 38 (gI z 3702).toNatClampNeg) z _ hw) mw_X4_kindOf lm_X4_97 md_X4_kindOf ⟨by decide, by decide⟩ ⟨Nat.zero_le _, Nat.zero_le _⟩ hl.1 rfl (Nat.le_of_ble_eq_true rfl) dX4_number_20 (fun r3 z2 H locs hw h => ?_)
    rw [hw.1] at h
    have hw := hw.2
    refine lv_iconst (v := 2) (pc := 23) C.1 C.2.1 dX4_number_23 (by decide) ?_
    refine lv_icmp_eq (tgt := 29) (pc := 24) C.1 C.2.1 dX4_number_24 (by decide) (fun c4 => ?_) (fun c4 => ?_)
    · have hw := hw.1 c4
      refine lv_iconst (v := 0) (pc := 29) C.1 C.2.1 dX4_number_29 (by decide) ?_
      refine lv_istore_n (lv' := [(1, .int ((0 : Int32))), (0, .ref (a 37))]) (pc := 30) C.1 C.2.1 dX4_number_30 rfl hl (by decide) rfl (fun ls hl => ?_)
      refine lv_aload_n (pc := 31) C.1 C.2.1 dX4_number_31 rfl (lv_at hl 1 rfl) ?_
      refine GX_X4_19_37 (pc := 32) C h dX4_number_32 ?_
      have hw := hw (fun (v5 : Int32) (v6 : Int32) => ∀ (H : Heap) (locs : List Loc) (ls : Array Slot), wd D t A s (wX t a z) H locs → lv_has ls 3 [(0, .ref (a 37)), (1, .int v5), (2, .int v6)] → W p l e (rmd 1) s m args below meth c H locs 0 0 (QI D t A (wX t a) (fun rr zz => zz = z ∧ P rr) below args s) (F0 m 36 ls [])) (by
          intro v5 v6 hw H locs ls h hl
          refine lv_iload_n (pc := 36) C.1 C.2.1 dX4_number_36 rfl (lv_at hl 2 rfl) ?_
          refine lv_aload_n (pc := 37) C.1 C.2.1 dX4_number_37 rfl (lv_at hl 0 rfl) ?_
          refine GX_X4_22_37 (pc := 38) C h dX4_number_38 ?_
          refine lv_icmp_ge (tgt := 70) (pc := 41) C.1 C.2.1 dX4_number_41 (by decide) (fun c8 => ?_) (fun c8 => ?_)
          · have hw := hw.1 c8
            refine lv_iload_n (pc := 70) C.1 C.2.1 dX4_number_70 rfl (lv_at hl 1 rfl) ?_
            exact rt_i (pc := 71) C hr hlk h ⟨rfl, hw⟩ dX4_number_71
          · have hw := hw.2 c8
            refine lv_ldc (pc := 44) C.1 C.2.1 C.2.2.2.1 (C.2.2.2.2 _ lc_X4_100) dX4_number_44 ?_
            refine lv_iload_n (pc := 46) C.1 C.2.1 dX4_number_46 rfl (lv_at hl 1 rfl) ?_
            refine lv_bipush (v := 10) (pc := 47) C.1 C.2.1 dX4_number_47 (by decide) ?_
            refine lv_imul (pc := 49) C.1 C.2.1 dX4_number_49 ?_
            refine lv_aload_n (pc := 50) C.1 C.2.1 dX4_number_50 rfl (lv_at hl 0 rfl) ?_
            refine GX_X4_9_37 (pc := 51) C h dX4_number_51 ?_
            refine lv_iload_n (pc := 54) C.1 C.2.1 dX4_number_54 rfl (lv_at hl 2 rfl) ?_
            refine ldX_38 (pc := 55) C h hw.1 dX4_number_55 ?_
            have hw := hw.2
            refine lv_iadd (pc := 56) C.1 C.2.1 dX4_number_56 ?_
            refine lv_bipush (v := 48) (pc := 57) C.1 C.2.1 dX4_number_57 (by decide) ?_
            refine lv_isub (pc := 59) C.1 C.2.1 dX4_number_59 ?_
            refine r_min (pc := 60) C lm_X4_75 m1_min m2_min m3_min ⟨by decide, by decide⟩ ⟨Nat.zero_le _, Nat.zero_le _⟩ hl.1 (Nat.le_of_ble_eq_true rfl) dX4_number_60 ?_
            refine lv_topi (fun x9 ex9 => ?_)
            have hw := hw x9 ex9
            refine lv_istore_n (lv' := [(1, .int x9), (0, .ref (a 37)), (2, .int v6)]) (pc := 63) C.1 C.2.1 dX4_number_63 rfl hl (by decide) rfl (fun ls hl => ?_)
            obtain ⟨x10, ex10⟩ : ∃ y : Int32, y = v6 + (1) := ⟨_, rfl⟩
            have hw := hw x10 ex10
            refine lv_iinc (v := x10) (lv' := [(2, .int x10), (1, .int x9), (0, .ref (a 37))]) (pc := 64) C.1 C.2.1 dX4_number_64 hl (k := 2) rfl (by rw [ex10]; rfl) (by decide) rfl (fun ls hl => ?_)
            refine lv_goto (tgt := 36) (pc := 67) C.1 C.2.1 dX4_number_67 (by decide) ?_
            exact hw _ _ _ h (lv_sub hl [2, 1, 0] rfl))
      refine lv_topi (fun x11 ex11 => ?_)
      have hw := hw x11 ex11
      refine lv_istore_n (lv' := [(2, .int x11), (1, .int ((0 : Int32))), (0, .ref (a 37))]) (pc := 35) C.1 C.2.1 dX4_number_35 rfl hl (by decide) rfl (fun ls hl => ?_)
      exact hw _ _ _ h (lv_sub hl [2, 1, 0] rfl)
    · have hw := hw.2 c4
      refine lv_iconst (v := -1) (pc := 27) C.1 C.2.1 dX4_number_27 (by decide) ?_
      exact rt_i (pc := 28) C hr hlk h ⟨rfl, hw⟩ dX4_number_28

def wp_X4_takeNumber (b1 : Int32) (z : St) (P : Int32 → St → Prop) : Prop :=
  (wp_X4_number z (fun r2 => (((r2 = ((-1 : Int32))) → P ((-1 : Int32)) z) ∧ (¬ (r2 = ((-1 : Int32))) → (((r2 ≤ b1) → (wp_X4_next z (fun z5 => P r2 z5))) ∧ (¬ (r2 ≤ b1) → P ((-1 : Int32)) z))))))
set_option maxHeartbeats 4000000 in
set_option maxRecDepth 100000 in
theorem m_X4_takeNumber (l : Launch) (D : va_G) (t : Ty3) (a : Nat → Nat) (b1 : Int32) (z : St) (P : Int32 → St → Prop) (hw : wp_X4_takeNumber b1 z P) : CtI l D t yX4_takeNumber cX4_takeNumber 3 (some .int) 2 (wX t a) (wX t a z) [.ref (a 37), .int b1] P := by
  refine ctI_of (by decide) (Nat.le_of_ble_eq_true rfl) ?_
  intro p e s m args below meth c A ls C hr hlk h hl
  have hl : lv_has ls 3 [(0, .ref (a 37)), (1, .int b1)] := hl
  unfold wp_X4_takeNumber at hw
  refine lv_aload_n (pc := 0) C.1 C.2.1 dX4_takeNumber_0 rfl (lv_at hl 0 rfl) ?_
  refine cl_vi (pc := 1) (As := []) (rest := []) C h (m_X4_number l D t a z _ hw) mw_X4_number lm_X4_83 md_X4_number rcX_37 ⟨by decide, by decide⟩ ⟨Nat.zero_le _, Nat.zero_le _⟩ hl.1 rfl (Nat.le_of_ble_eq_true rfl) dX4_takeNumber_1 (fun r2 z1 H locs hw h => ?_)
  rw [hw.1] at h
  have hw := hw.2
  refine lv_istore_n (lv' := [(2, .int r2), (0, .ref (a 37)), (1, .int b1)]) (pc := 4) C.1 C.2.1 dX4_takeNumber_4 rfl hl (by decide) rfl (fun ls hl => ?_)
  refine lv_iload_n (pc := 5) C.1 C.2.1 dX4_takeNumber_5 rfl (lv_at hl 0 rfl) ?_
  refine lv_iconst (v := -1) (pc := 6) C.1 C.2.1 dX4_takeNumber_6 (by decide) ?_
  refine lv_icmp_eq (tgt := 15) (pc := 7) C.1 C.2.1 dX4_takeNumber_7 (by decide) (fun c3 => ?_) (fun c3 => ?_)
  · have hw := hw.1 c3
    refine lv_iconst (v := -1) (pc := 15) C.1 C.2.1 dX4_takeNumber_15 (by decide) ?_
    exact rt_i (pc := 16) C hr hlk h hw dX4_takeNumber_16
  · have hw := hw.2 c3
    refine lv_iload_n (pc := 10) C.1 C.2.1 dX4_takeNumber_10 rfl (lv_at hl 0 rfl) ?_
    refine lv_iload_n (pc := 11) C.1 C.2.1 dX4_takeNumber_11 rfl (lv_at hl 2 rfl) ?_
    refine lv_icmp_le (tgt := 17) (pc := 12) C.1 C.2.1 dX4_takeNumber_12 (by decide) (fun c4 => ?_) (fun c4 => ?_)
    · have hw := hw.1 c4
      refine lv_aload_n (pc := 17) C.1 C.2.1 dX4_takeNumber_17 rfl (lv_at hl 1 rfl) ?_
      refine cl_vv (pc := 18) (As := []) (rest := []) C h (m_X4_next l D t a z _ hw) mw_X4_next lm_X4_30 md_X4_next rcX_37 ⟨by decide, by decide⟩ ⟨Nat.zero_le _, Nat.zero_le _⟩ hl.1 rfl (Nat.le_of_ble_eq_true rfl) dX4_takeNumber_18 (fun z5 H locs hw h => ?_)
      refine lv_iload_n (pc := 21) C.1 C.2.1 dX4_takeNumber_21 rfl (lv_at hl 0 rfl) ?_
      exact rt_i (pc := 22) C hr hlk h hw dX4_takeNumber_22
    · have hw := hw.2 c4
      refine lv_iconst (v := -1) (pc := 15) C.1 C.2.1 dX4_takeNumber_15 (by decide) ?_
      exact rt_i (pc := 16) C hr hlk h hw dX4_takeNumber_16

def wp_X4_take_s5  (z : St) (P : Int32 → St → Prop) : Prop :=
  (((((gI z 3703) - (gI z 3702)) = ((6 : Int32))) → (∀ K5 : Int32 → Prop, (∀ (v4 : Int32), (((((6 : Int32)) ≤ v4) → (wp_X4_next z (fun z9 => P ((1 : Int32)) z9))) ∧ (¬ (((6 : Int32)) ≤ v4) → (vp_in ((gI z 3702) + v4) 300 ∧ (vp_in v4 6 ∧ ((((gF z 38 ((gI z 3702) + v4).toNatClampNeg) = (sch 5 v4)) → (∀ x14 : Int32, x14 = v4 + (1) → K5 x14)) ∧ (¬ ((gF z 38 ((gI z 3702) + v4).toNatClampNeg) = (sch 5 v4)) → P ((0 : Int32)) z)))))) → K5 v4) → K5 ((0 : Int32)))) ∧ (¬ (((gI z 3703) - (gI z 3702)) = ((6 : Int32))) → P ((0 : Int32)) z))
set_option maxHeartbeats 4000000 in
set_option maxRecDepth 100000 in
theorem m_X4_take_s5 (l : Launch) (D : va_G) (t : Ty3) (a : Nat → Nat)  (z : St) (P : Int32 → St → Prop) (hw : wp_X4_take_s5 z P) : CtI l D t yX4_take cX4_take 3 (some .boolean) 4 (wX t a) (wX t a z) [.ref (a 37), .ref (t.2.2.2.1 5)] P := by
  refine ctI_of (by decide) (Nat.le_of_ble_eq_true rfl) ?_
  intro p e s m args below meth c A ls C hr hlk h hl
  have hl : lv_has ls 3 [(0, .ref (a 37)), (1, .ref (t.2.2.2.1 5))] := hl
  unfold wp_X4_take_s5 at hw
  refine lv_aload_n (pc := 0) C.1 C.2.1 dX4_take_0 rfl (lv_at hl 0 rfl) ?_
  refine GX_X4_22_37 (pc := 1) C h dX4_take_1 ?_
  refine lv_aload_n (pc := 4) C.1 C.2.1 dX4_take_4 rfl (lv_at hl 0 rfl) ?_
  refine GX_X4_19_37 (pc := 5) C h dX4_take_5 ?_
  refine lv_isub (pc := 8) C.1 C.2.1 dX4_take_8 ?_
  refine lv_aload_n (pc := 9) C.1 C.2.1 dX4_take_9 rfl (lv_at hl 1 rfl) ?_
  refine cl_ti (pc := 10) (i := 5) (As := []) (rest := [.int ((gI z 3703) - (gI z 3702))]) C h (m_length l D t (wX t a) z 5 (by decide)) mw_J0_length_8abf5 lm_X4_89 md_J0_length_8abf5 (by decide) rfl ⟨by decide, by decide⟩ ⟨Nat.zero_le _, Nat.zero_le _⟩ hl.1 rfl (Nat.le_of_ble_eq_true rfl) dX4_take_10 (fun r2 z1 H locs hq h => ?_)
  rw [hq.1] at h
  have er2 : r2 = 6 := hq.2
  subst er2
  refine lv_icmp_eq (tgt := 18) (pc := 13) C.1 C.2.1 dX4_take_13 (by decide) (fun c3 => ?_) (fun c3 => ?_)
  · have hw := hw.1 c3
    refine lv_iconst (v := 0) (pc := 18) C.1 C.2.1 dX4_take_18 (by decide) ?_
    have hw := hw (fun (v4 : Int32) => ∀ (H : Heap) (locs : List Loc) (ls : Array Slot), wd D t A s (wX t a z) H locs → lv_has ls 3 [(0, .ref (a 37)), (1, .ref (t.2.2.2.1 5)), (2, .int v4)] → W p l e (rmd 4) s m args below meth c H locs 0 0 (QI D t A (wX t a) P below args s) (F0 m 20 ls [])) (by
        intro v4 hw H locs ls h hl
        refine lv_iload_n (pc := 20) C.1 C.2.1 dX4_take_20 rfl (lv_at hl 2 rfl) ?_
        refine lv_aload_n (pc := 21) C.1 C.2.1 dX4_take_21 rfl (lv_at hl 1 rfl) ?_
        refine cl_ti (pc := 22) (i := 5) (As := []) (rest := [.int v4]) C h (m_length l D t (wX t a) z 5 (by decide)) mw_J0_length_8abf5 lm_X4_89 md_J0_length_8abf5 (by decide) rfl ⟨by decide, by decide⟩ ⟨Nat.zero_le _, Nat.zero_le _⟩ hl.1 rfl (Nat.le_of_ble_eq_true rfl) dX4_take_22 (fun r7 z6 H locs hq h => ?_)
        rw [hq.1] at h
        have er7 : r7 = 6 := hq.2
        subst er7
        refine lv_icmp_ge (tgt := 55) (pc := 25) C.1 C.2.1 dX4_take_25 (by decide) (fun c8 => ?_) (fun c8 => ?_)
        · have hw := hw.1 c8
          refine lv_aload_n (pc := 55) C.1 C.2.1 dX4_take_55 rfl (lv_at hl 0 rfl) ?_
          refine cl_vv (pc := 56) (As := []) (rest := []) C h (m_X4_next l D t a z _ hw) mw_X4_next lm_X4_30 md_X4_next rcX_37 ⟨by decide, by decide⟩ ⟨Nat.zero_le _, Nat.zero_le _⟩ hl.1 rfl (Nat.le_of_ble_eq_true rfl) dX4_take_56 (fun z9 H locs hw h => ?_)
          refine lv_iconst (v := 1) (pc := 59) C.1 C.2.1 dX4_take_59 (by decide) ?_
          exact rt_z (pc := 60) C hr hlk h (Or.inr rfl) hw dX4_take_60
        · have hw := hw.2 c8
          refine lv_aload_n (pc := 28) C.1 C.2.1 dX4_take_28 rfl (lv_at hl 0 rfl) ?_
          refine GX_X4_9_37 (pc := 29) C h dX4_take_29 ?_
          refine lv_aload_n (pc := 32) C.1 C.2.1 dX4_take_32 rfl (lv_at hl 0 rfl) ?_
          refine GX_X4_19_37 (pc := 33) C h dX4_take_33 ?_
          refine lv_iload_n (pc := 36) C.1 C.2.1 dX4_take_36 rfl (lv_at hl 2 rfl) ?_
          refine lv_iadd (pc := 37) C.1 C.2.1 dX4_take_37 ?_
          refine ldX_38 (pc := 38) C h hw.1 dX4_take_38 ?_
          have hw := hw.2
          refine lv_aload_n (pc := 39) C.1 C.2.1 dX4_take_39 rfl (lv_at hl 1 rfl) ?_
          refine lv_iload_n (pc := 40) C.1 C.2.1 dX4_take_40 rfl (lv_at hl 2 rfl) ?_
          refine cl_ti (pc := 41) (i := 5) (As := [.int v4]) (rest := [.int (gF z 38 ((gI z 3702) + v4).toNatClampNeg)]) C h (m_charAt l D t (wX t a) z 5 (by decide) v4 hw.1) mw_J0_charAt_5068e lm_X4_93 md_J0_charAt_5068e (by decide) rfl ⟨by decide, by decide⟩ ⟨Nat.zero_le _, Nat.zero_le _⟩ hl.1 rfl (Nat.le_of_ble_eq_true rfl) dX4_take_41 (fun r12 z11 H locs hq h => ?_)
          rw [hq.1] at h
          have er12 := hq.2
          subst er12
          have hw := hw.2
          refine lv_icmp_eq (tgt := 49) (pc := 44) C.1 C.2.1 dX4_take_44 (by decide) (fun c13 => ?_) (fun c13 => ?_)
          · have hw := hw.1 c13
            obtain ⟨x14, ex14⟩ : ∃ y : Int32, y = v4 + (1) := ⟨_, rfl⟩
            have hw := hw x14 ex14
            refine lv_iinc (v := x14) (lv' := [(2, .int x14), (0, .ref (a 37)), (1, .ref (t.2.2.2.1 5))]) (pc := 49) C.1 C.2.1 dX4_take_49 hl (k := 2) rfl (by rw [ex14]; rfl) (by decide) rfl (fun ls hl => ?_)
            refine lv_goto (tgt := 20) (pc := 52) C.1 C.2.1 dX4_take_52 (by decide) ?_
            exact hw _ _ _ h (lv_sub hl [1, 2, 0] rfl)
          · have hw := hw.2 c13
            refine lv_iconst (v := 0) (pc := 47) C.1 C.2.1 dX4_take_47 (by decide) ?_
            exact rt_z (pc := 48) C hr hlk h (Or.inl rfl) hw dX4_take_48)
    refine lv_istore_n (lv' := [(2, .int ((0 : Int32))), (0, .ref (a 37)), (1, .ref (t.2.2.2.1 5))]) (pc := 19) C.1 C.2.1 dX4_take_19 rfl hl (by decide) rfl (fun ls hl => ?_)
    exact hw _ _ _ h (lv_sub hl [1, 2, 0] rfl)
  · have hw := hw.2 c3
    refine lv_iconst (v := 0) (pc := 16) C.1 C.2.1 dX4_take_16 (by decide) ?_
    exact rt_z (pc := 17) C hr hlk h (Or.inl rfl) hw dX4_take_17

def wp_X4_readBefore_52  (z : St) (P : Int32 → St → Prop) : Prop :=
  (wp_X4_takeNumber ((15 : Int32)) z (fun r2 z1 => (((r2 = ((-1 : Int32))) → P ((0 : Int32)) z1) ∧ (¬ (r2 = ((-1 : Int32))) → (wp_X4_take_s5 z1 (fun r5 z4 => (((r5 = 0) → P ((0 : Int32)) z4) ∧ (¬ (r5 = 0) → (wp_X4_number z4 (fun r8 => (((¬ r8 = r2) → (wp_X4_takeNumber ((15 : Int32)) z4 (fun r11 z10 => (((¬ r11 = ((-1 : Int32))) → (vp_in r2 16 ∧ (vp_in r2 16 ∧ (∀ z13 : St, z13 = wR z10 54 (upd (gF z10 54) r2.toNatClampNeg ((gF z10 54 r2.toNatClampNeg) ||| (((1 : Int32)) <<< (r11 &&& 31)))) → P ((1 : Int32)) z13)))) ∧ (r11 = ((-1 : Int32)) → P ((0 : Int32)) z10))))) ∧ (r8 = r2 → P ((0 : Int32)) z4))))))))))))
set_option maxHeartbeats 4000000 in
set_option maxRecDepth 100000 in
theorem m_X4_readBefore_52 (l : Launch) (D : va_G) (t : Ty3) (a : Nat → Nat)  (z : St) (P : Int32 → St → Prop) (hw : wp_X4_readBefore_52 z P) : CtI l D t yX4_readBefore cX4_readBefore 4 (some .boolean) 5 (wX t a) (wX t a z) [.ref (a 37), .ref (a 52)] P := by
  refine ctI_of (by decide) (Nat.le_of_ble_eq_true rfl) ?_
  intro p e s m args below meth c A ls C hr hlk h hl
  have hl : lv_has ls 4 [(0, .ref (a 37)), (1, .ref (a 52))] := hl
  unfold wp_X4_readBefore_52 at hw
  refine lv_aload_n (pc := 0) C.1 C.2.1 dX4_readBefore_0 rfl (lv_at hl 0 rfl) ?_
  refine lv_bipush (v := 15) (pc := 1) C.1 C.2.1 dX4_readBefore_1 (by decide) ?_
  refine cl_vi (pc := 3) (As := [.int ((15 : Int32))]) (rest := []) C h (m_X4_takeNumber l D t a ((15 : Int32)) z _ hw) mw_X4_takeNumber lm_X4_61 md_X4_takeNumber rcX_37 ⟨by decide, by decide⟩ ⟨Nat.zero_le _, Nat.zero_le _⟩ hl.1 rfl (Nat.le_of_ble_eq_true rfl) dX4_readBefore_3 (fun r2 z1 H locs hw h => ?_)
  refine lv_istore_n (lv' := [(2, .int r2), (0, .ref (a 37)), (1, .ref (a 52))]) (pc := 6) C.1 C.2.1 dX4_readBefore_6 rfl hl (by decide) rfl (fun ls hl => ?_)
  refine lv_iload_n (pc := 7) C.1 C.2.1 dX4_readBefore_7 rfl (lv_at hl 0 rfl) ?_
  refine lv_iconst (v := -1) (pc := 8) C.1 C.2.1 dX4_readBefore_8 (by decide) ?_
  refine lv_icmp_eq (tgt := 29) (pc := 9) C.1 C.2.1 dX4_readBefore_9 (by decide) (fun c3 => ?_) (fun c3 => ?_)
  · have hw := hw.1 c3
    refine lv_iconst (v := 0) (pc := 29) C.1 C.2.1 dX4_readBefore_29 (by decide) ?_
    exact rt_z (pc := 30) C hr hlk h (Or.inl rfl) hw dX4_readBefore_30
  · have hw := hw.2 c3
    refine lv_aload_n (pc := 12) C.1 C.2.1 dX4_readBefore_12 rfl (lv_at hl 1 rfl) ?_
    refine r_ldcS (pc := 13) (i := 5) C h (by decide) rfl dX4_readBefore_13 ?_
    refine cl_vi (pc := 15) (As := [.ref (t.2.2.2.1 5)]) (rest := []) C h (m_X4_take_s5 l D t a z1 _ hw) mw_X4_take lm_X4_42 md_X4_take rcX_37 ⟨by decide, by decide⟩ ⟨Nat.zero_le _, Nat.zero_le _⟩ hl.1 rfl (Nat.le_of_ble_eq_true rfl) dX4_readBefore_15 (fun r5 z4 H locs hw h => ?_)
    refine lv_if_eq (tgt := 29) (pc := 18) C.1 C.2.1 dX4_readBefore_18 (by decide) (fun c6 => ?_) (fun c6 => ?_)
    · have hw := hw.1 c6
      refine lv_iconst (v := 0) (pc := 29) C.1 C.2.1 dX4_readBefore_29 (by decide) ?_
      exact rt_z (pc := 30) C hr hlk h (Or.inl rfl) hw dX4_readBefore_30
    · have hw := hw.2 c6
      refine lv_aload_n (pc := 21) C.1 C.2.1 dX4_readBefore_21 rfl (lv_at hl 1 rfl) ?_
      refine cl_vi (pc := 22) (As := []) (rest := []) C h (m_X4_number l D t a z4 _ hw) mw_X4_number lm_X4_83 md_X4_number rcX_37 ⟨by decide, by decide⟩ ⟨Nat.zero_le _, Nat.zero_le _⟩ hl.1 rfl (Nat.le_of_ble_eq_true rfl) dX4_readBefore_22 (fun r8 z7 H locs hw h => ?_)
      rw [hw.1] at h
      have hw := hw.2
      refine lv_iload_n (pc := 25) C.1 C.2.1 dX4_readBefore_25 rfl (lv_at hl 0 rfl) ?_
      refine lv_icmp_ne (tgt := 31) (pc := 26) C.1 C.2.1 dX4_readBefore_26 (by decide) (fun c9 => ?_) (fun c9 => ?_)
      · have hw := hw.1 c9
        refine lv_aload_n (pc := 31) C.1 C.2.1 dX4_readBefore_31 rfl (lv_at hl 1 rfl) ?_
        refine lv_bipush (v := 15) (pc := 32) C.1 C.2.1 dX4_readBefore_32 (by decide) ?_
        refine cl_vi (pc := 34) (As := [.int ((15 : Int32))]) (rest := []) C h (m_X4_takeNumber l D t a ((15 : Int32)) z4 _ hw) mw_X4_takeNumber lm_X4_61 md_X4_takeNumber rcX_37 ⟨by decide, by decide⟩ ⟨Nat.zero_le _, Nat.zero_le _⟩ hl.1 rfl (Nat.le_of_ble_eq_true rfl) dX4_readBefore_34 (fun r11 z10 H locs hw h => ?_)
        refine lv_istore_n (lv' := [(3, .int r11), (2, .int r2), (0, .ref (a 37)), (1, .ref (a 52))]) (pc := 37) C.1 C.2.1 dX4_readBefore_37 rfl hl (by decide) rfl (fun ls hl => ?_)
        refine lv_iload_n (pc := 38) C.1 C.2.1 dX4_readBefore_38 rfl (lv_at hl 0 rfl) ?_
        refine lv_iconst (v := -1) (pc := 39) C.1 C.2.1 dX4_readBefore_39 (by decide) ?_
        refine lv_icmp_ne (tgt := 45) (pc := 40) C.1 C.2.1 dX4_readBefore_40 (by decide) (fun c12 => ?_) (fun c12 => ?_)
        · have hw := hw.1 c12
          refine lv_aload_n (pc := 45) C.1 C.2.1 dX4_readBefore_45 rfl (lv_at hl 3 rfl) ?_
          refine GX_X4_87_52 (pc := 46) C h dX4_readBefore_46 ?_
          refine lv_iload_n (pc := 49) C.1 C.2.1 dX4_readBefore_49 rfl (lv_at hl 1 rfl) ?_
          refine lv_dup2_11 (pc := 50) C.1 C.2.1 dX4_readBefore_50 rfl rfl ?_
          refine ldX_54 (pc := 51) C h hw.1 dX4_readBefore_51 ?_
          have hw := hw.2
          refine lv_iconst (v := 1) (pc := 52) C.1 C.2.1 dX4_readBefore_52 (by decide) ?_
          refine lv_iload_n (pc := 53) C.1 C.2.1 dX4_readBefore_53 rfl (lv_at hl 0 rfl) ?_
          refine lv_ishl (pc := 54) C.1 C.2.1 dX4_readBefore_54 ?_
          refine lv_ior (pc := 55) C.1 C.2.1 dX4_readBefore_55 ?_
          refine stX_54 (pc := 56) C h hw.1 dX4_readBefore_56 (fun z13 ez13 H locs h => ?_)
          have hw := hw.2 z13 ez13
          refine lv_iconst (v := 1) (pc := 57) C.1 C.2.1 dX4_readBefore_57 (by decide) ?_
          exact rt_z (pc := 58) C hr hlk h (Or.inr rfl) hw dX4_readBefore_58
        · have hw := hw.2 c12
          refine lv_iconst (v := 0) (pc := 43) C.1 C.2.1 dX4_readBefore_43 (by decide) ?_
          exact rt_z (pc := 44) C hr hlk h (Or.inl rfl) hw dX4_readBefore_44
      · have hw := hw.2 c9
        refine lv_iconst (v := 0) (pc := 29) C.1 C.2.1 dX4_readBefore_29 (by decide) ?_
        exact rt_z (pc := 30) C hr hlk h (Or.inl rfl) hw dX4_readBefore_30

def wp_X4_readDear_52  (z : St) (P : Int32 → St → Prop) : Prop :=
  (wp_X4_takeNumber ((10000 : Int32)) z (fun r2 z1 => (((¬ r2 = ((-1 : Int32))) → (∀ z4 : St, z4 = wI z1 5202 ((if r2 < gI z1 5202 then r2 else gI z1 5202)) → P ((1 : Int32)) z4)) ∧ (r2 = ((-1 : Int32)) → P ((0 : Int32)) z1))))
set_option maxHeartbeats 4000000 in
set_option maxRecDepth 100000 in
theorem m_X4_readDear_52 (l : Launch) (D : va_G) (t : Ty3) (a : Nat → Nat)  (z : St) (P : Int32 → St → Prop) (hw : wp_X4_readDear_52 z P) : CtI l D t yX4_readDear cX4_readDear 3 (some .boolean) 3 (wX t a) (wX t a z) [.ref (a 37), .ref (a 52)] P := by
  refine ctI_of (by decide) (Nat.le_of_ble_eq_true rfl) ?_
  intro p e s m args below meth c A ls C hr hlk h hl
  have hl : lv_has ls 3 [(0, .ref (a 37)), (1, .ref (a 52))] := hl
  unfold wp_X4_readDear_52 at hw
  refine lv_aload_n (pc := 0) C.1 C.2.1 dX4_readDear_0 rfl (lv_at hl 0 rfl) ?_
  refine lv_sipush (v := 10000) (pc := 1) C.1 C.2.1 dX4_readDear_1 (by decide) ?_
  refine cl_vi (pc := 4) (As := [.int ((10000 : Int32))]) (rest := []) C h (m_X4_takeNumber l D t a ((10000 : Int32)) z _ hw) mw_X4_takeNumber lm_X4_61 md_X4_takeNumber rcX_37 ⟨by decide, by decide⟩ ⟨Nat.zero_le _, Nat.zero_le _⟩ hl.1 rfl (Nat.le_of_ble_eq_true rfl) dX4_readDear_4 (fun r2 z1 H locs hw h => ?_)
  refine lv_istore_n (lv' := [(2, .int r2), (0, .ref (a 37)), (1, .ref (a 52))]) (pc := 7) C.1 C.2.1 dX4_readDear_7 rfl hl (by decide) rfl (fun ls hl => ?_)
  refine lv_iload_n (pc := 8) C.1 C.2.1 dX4_readDear_8 rfl (lv_at hl 0 rfl) ?_
  refine lv_iconst (v := -1) (pc := 9) C.1 C.2.1 dX4_readDear_9 (by decide) ?_
  refine lv_icmp_ne (tgt := 15) (pc := 10) C.1 C.2.1 dX4_readDear_10 (by decide) (fun c3 => ?_) (fun c3 => ?_)
  · have hw := hw.1 c3
    refine lv_aload_n (pc := 15) C.1 C.2.1 dX4_readDear_15 rfl (lv_at hl 2 rfl) ?_
    refine lv_aload_n (pc := 16) C.1 C.2.1 dX4_readDear_16 rfl (lv_at hl 2 rfl) ?_
    refine GX_X4_73_52 (pc := 17) C h dX4_readDear_17 ?_
    refine lv_iload_n (pc := 20) C.1 C.2.1 dX4_readDear_20 rfl (lv_at hl 0 rfl) ?_
    refine r_min (pc := 21) C lm_X4_75 m1_min m2_min m3_min ⟨by decide, by decide⟩ ⟨Nat.zero_le _, Nat.zero_le _⟩ hl.1 (Nat.le_of_ble_eq_true rfl) dX4_readDear_21 ?_
    refine PX_X4_73_52 (pc := 24) C h dX4_readDear_24 (fun z4 ez4 H locs h => ?_)
    have hw := hw z4 ez4
    refine lv_iconst (v := 1) (pc := 27) C.1 C.2.1 dX4_readDear_27 (by decide) ?_
    exact rt_z (pc := 28) C hr hlk h (Or.inr rfl) hw dX4_readDear_28
  · have hw := hw.2 c3
    refine lv_iconst (v := 0) (pc := 13) C.1 C.2.1 dX4_readDear_13 (by decide) ?_
    exact rt_z (pc := 14) C hr hlk h (Or.inl rfl) hw dX4_readDear_14

def wp_X4_take_s3  (z : St) (P : Int32 → St → Prop) : Prop :=
  (((((gI z 3703) - (gI z 3702)) = ((4 : Int32))) → (∀ K5 : Int32 → Prop, (∀ (v4 : Int32), (((((4 : Int32)) ≤ v4) → (wp_X4_next z (fun z9 => P ((1 : Int32)) z9))) ∧ (¬ (((4 : Int32)) ≤ v4) → (vp_in ((gI z 3702) + v4) 300 ∧ (vp_in v4 4 ∧ ((((gF z 38 ((gI z 3702) + v4).toNatClampNeg) = (sch 3 v4)) → (∀ x14 : Int32, x14 = v4 + (1) → K5 x14)) ∧ (¬ ((gF z 38 ((gI z 3702) + v4).toNatClampNeg) = (sch 3 v4)) → P ((0 : Int32)) z)))))) → K5 v4) → K5 ((0 : Int32)))) ∧ (¬ (((gI z 3703) - (gI z 3702)) = ((4 : Int32))) → P ((0 : Int32)) z))
set_option maxHeartbeats 4000000 in
set_option maxRecDepth 100000 in
theorem m_X4_take_s3 (l : Launch) (D : va_G) (t : Ty3) (a : Nat → Nat)  (z : St) (P : Int32 → St → Prop) (hw : wp_X4_take_s3 z P) : CtI l D t yX4_take cX4_take 3 (some .boolean) 4 (wX t a) (wX t a z) [.ref (a 37), .ref (t.2.2.2.1 3)] P := by
  refine ctI_of (by decide) (Nat.le_of_ble_eq_true rfl) ?_
  intro p e s m args below meth c A ls C hr hlk h hl
  have hl : lv_has ls 3 [(0, .ref (a 37)), (1, .ref (t.2.2.2.1 3))] := hl
  unfold wp_X4_take_s3 at hw
  refine lv_aload_n (pc := 0) C.1 C.2.1 dX4_take_0 rfl (lv_at hl 0 rfl) ?_
  refine GX_X4_22_37 (pc := 1) C h dX4_take_1 ?_
  refine lv_aload_n (pc := 4) C.1 C.2.1 dX4_take_4 rfl (lv_at hl 0 rfl) ?_
  refine GX_X4_19_37 (pc := 5) C h dX4_take_5 ?_
  refine lv_isub (pc := 8) C.1 C.2.1 dX4_take_8 ?_
  refine lv_aload_n (pc := 9) C.1 C.2.1 dX4_take_9 rfl (lv_at hl 1 rfl) ?_
  refine cl_ti (pc := 10) (i := 3) (As := []) (rest := [.int ((gI z 3703) - (gI z 3702))]) C h (m_length l D t (wX t a) z 3 (by decide)) mw_J0_length_8abf5 lm_X4_89 md_J0_length_8abf5 (by decide) rfl ⟨by decide, by decide⟩ ⟨Nat.zero_le _, Nat.zero_le _⟩ hl.1 rfl (Nat.le_of_ble_eq_true rfl) dX4_take_10 (fun r2 z1 H locs hq h => ?_)
  rw [hq.1] at h
  have er2 : r2 = 4 := hq.2
  subst er2
  refine lv_icmp_eq (tgt := 18) (pc := 13) C.1 C.2.1 dX4_take_13 (by decide) (fun c3 => ?_) (fun c3 => ?_)
  · have hw := hw.1 c3
    refine lv_iconst (v := 0) (pc := 18) C.1 C.2.1 dX4_take_18 (by decide) ?_
    have hw := hw (fun (v4 : Int32) => ∀ (H : Heap) (locs : List Loc) (ls : Array Slot), wd D t A s (wX t a z) H locs → lv_has ls 3 [(0, .ref (a 37)), (1, .ref (t.2.2.2.1 3)), (2, .int v4)] → W p l e (rmd 4) s m args below meth c H locs 0 0 (QI D t A (wX t a) P below args s) (F0 m 20 ls [])) (by
        intro v4 hw H locs ls h hl
        refine lv_iload_n (pc := 20) C.1 C.2.1 dX4_take_20 rfl (lv_at hl 2 rfl) ?_
        refine lv_aload_n (pc := 21) C.1 C.2.1 dX4_take_21 rfl (lv_at hl 1 rfl) ?_
        refine cl_ti (pc := 22) (i := 3) (As := []) (rest := [.int v4]) C h (m_length l D t (wX t a) z 3 (by decide)) mw_J0_length_8abf5 lm_X4_89 md_J0_length_8abf5 (by decide) rfl ⟨by decide, by decide⟩ ⟨Nat.zero_le _, Nat.zero_le _⟩ hl.1 rfl (Nat.le_of_ble_eq_true rfl) dX4_take_22 (fun r7 z6 H locs hq h => ?_)
        rw [hq.1] at h
        have er7 : r7 = 4 := hq.2
        subst er7
        refine lv_icmp_ge (tgt := 55) (pc := 25) C.1 C.2.1 dX4_take_25 (by decide) (fun c8 => ?_) (fun c8 => ?_)
        · have hw := hw.1 c8
          refine lv_aload_n (pc := 55) C.1 C.2.1 dX4_take_55 rfl (lv_at hl 0 rfl) ?_
          refine cl_vv (pc := 56) (As := []) (rest := []) C h (m_X4_next l D t a z _ hw) mw_X4_next lm_X4_30 md_X4_next rcX_37 ⟨by decide, by decide⟩ ⟨Nat.zero_le _, Nat.zero_le _⟩ hl.1 rfl (Nat.le_of_ble_eq_true rfl) dX4_take_56 (fun z9 H locs hw h => ?_)
          refine lv_iconst (v := 1) (pc := 59) C.1 C.2.1 dX4_take_59 (by decide) ?_
          exact rt_z (pc := 60) C hr hlk h (Or.inr rfl) hw dX4_take_60
        · have hw := hw.2 c8
          refine lv_aload_n (pc := 28) C.1 C.2.1 dX4_take_28 rfl (lv_at hl 0 rfl) ?_
          refine GX_X4_9_37 (pc := 29) C h dX4_take_29 ?_
          refine lv_aload_n (pc := 32) C.1 C.2.1 dX4_take_32 rfl (lv_at hl 0 rfl) ?_
          refine GX_X4_19_37 (pc := 33) C h dX4_take_33 ?_
          refine lv_iload_n (pc := 36) C.1 C.2.1 dX4_take_36 rfl (lv_at hl 2 rfl) ?_
          refine lv_iadd (pc := 37) C.1 C.2.1 dX4_take_37 ?_
          refine ldX_38 (pc := 38) C h hw.1 dX4_take_38 ?_
          have hw := hw.2
          refine lv_aload_n (pc := 39) C.1 C.2.1 dX4_take_39 rfl (lv_at hl 1 rfl) ?_
          refine lv_iload_n (pc := 40) C.1 C.2.1 dX4_take_40 rfl (lv_at hl 2 rfl) ?_
          refine cl_ti (pc := 41) (i := 3) (As := [.int v4]) (rest := [.int (gF z 38 ((gI z 3702) + v4).toNatClampNeg)]) C h (m_charAt l D t (wX t a) z 3 (by decide) v4 hw.1) mw_J0_charAt_5068e lm_X4_93 md_J0_charAt_5068e (by decide) rfl ⟨by decide, by decide⟩ ⟨Nat.zero_le _, Nat.zero_le _⟩ hl.1 rfl (Nat.le_of_ble_eq_true rfl) dX4_take_41 (fun r12 z11 H locs hq h => ?_)
          rw [hq.1] at h
          have er12 := hq.2
          subst er12
          have hw := hw.2
          refine lv_icmp_eq (tgt := 49) (pc := 44) C.1 C.2.1 dX4_take_44 (by decide) (fun c13 => ?_) (fun c13 => ?_)
          · have hw := hw.1 c13
            obtain ⟨x14, ex14⟩ : ∃ y : Int32, y = v4 + (1) := ⟨_, rfl⟩
            have hw := hw x14 ex14
            refine lv_iinc (v := x14) (lv' := [(2, .int x14), (0, .ref (a 37)), (1, .ref (t.2.2.2.1 3))]) (pc := 49) C.1 C.2.1 dX4_take_49 hl (k := 2) rfl (by rw [ex14]; rfl) (by decide) rfl (fun ls hl => ?_)
            refine lv_goto (tgt := 20) (pc := 52) C.1 C.2.1 dX4_take_52 (by decide) ?_
            exact hw _ _ _ h (lv_sub hl [1, 2, 0] rfl)
          · have hw := hw.2 c13
            refine lv_iconst (v := 0) (pc := 47) C.1 C.2.1 dX4_take_47 (by decide) ?_
            exact rt_z (pc := 48) C hr hlk h (Or.inl rfl) hw dX4_take_48)
    refine lv_istore_n (lv' := [(2, .int ((0 : Int32))), (0, .ref (a 37)), (1, .ref (t.2.2.2.1 3))]) (pc := 19) C.1 C.2.1 dX4_take_19 rfl hl (by decide) rfl (fun ls hl => ?_)
    exact hw _ _ _ h (lv_sub hl [1, 2, 0] rfl)
  · have hw := hw.2 c3
    refine lv_iconst (v := 0) (pc := 16) C.1 C.2.1 dX4_take_16 (by decide) ?_
    exact rt_z (pc := 17) C hr hlk h (Or.inl rfl) hw dX4_take_17

def wp_X4_take_s4  (z : St) (P : Int32 → St → Prop) : Prop :=
  (((((gI z 3703) - (gI z 3702)) = ((2 : Int32))) → (∀ K5 : Int32 → Prop, (∀ (v4 : Int32), (((((2 : Int32)) ≤ v4) → (wp_X4_next z (fun z9 => P ((1 : Int32)) z9))) ∧ (¬ (((2 : Int32)) ≤ v4) → (vp_in ((gI z 3702) + v4) 300 ∧ (vp_in v4 2 ∧ ((((gF z 38 ((gI z 3702) + v4).toNatClampNeg) = (sch 4 v4)) → (∀ x14 : Int32, x14 = v4 + (1) → K5 x14)) ∧ (¬ ((gF z 38 ((gI z 3702) + v4).toNatClampNeg) = (sch 4 v4)) → P ((0 : Int32)) z)))))) → K5 v4) → K5 ((0 : Int32)))) ∧ (¬ (((gI z 3703) - (gI z 3702)) = ((2 : Int32))) → P ((0 : Int32)) z))
set_option maxHeartbeats 4000000 in
set_option maxRecDepth 100000 in
theorem m_X4_take_s4 (l : Launch) (D : va_G) (t : Ty3) (a : Nat → Nat)  (z : St) (P : Int32 → St → Prop) (hw : wp_X4_take_s4 z P) : CtI l D t yX4_take cX4_take 3 (some .boolean) 4 (wX t a) (wX t a z) [.ref (a 37), .ref (t.2.2.2.1 4)] P := by
  refine ctI_of (by decide) (Nat.le_of_ble_eq_true rfl) ?_
  intro p e s m args below meth c A ls C hr hlk h hl
  have hl : lv_has ls 3 [(0, .ref (a 37)), (1, .ref (t.2.2.2.1 4))] := hl
  unfold wp_X4_take_s4 at hw
  refine lv_aload_n (pc := 0) C.1 C.2.1 dX4_take_0 rfl (lv_at hl 0 rfl) ?_
  refine GX_X4_22_37 (pc := 1) C h dX4_take_1 ?_
  refine lv_aload_n (pc := 4) C.1 C.2.1 dX4_take_4 rfl (lv_at hl 0 rfl) ?_
  refine GX_X4_19_37 (pc := 5) C h dX4_take_5 ?_
  refine lv_isub (pc := 8) C.1 C.2.1 dX4_take_8 ?_
  refine lv_aload_n (pc := 9) C.1 C.2.1 dX4_take_9 rfl (lv_at hl 1 rfl) ?_
  refine cl_ti (pc := 10) (i := 4) (As := []) (rest := [.int ((gI z 3703) - (gI z 3702))]) C h (m_length l D t (wX t a) z 4 (by decide)) mw_J0_length_8abf5 lm_X4_89 md_J0_length_8abf5 (by decide) rfl ⟨by decide, by decide⟩ ⟨Nat.zero_le _, Nat.zero_le _⟩ hl.1 rfl (Nat.le_of_ble_eq_true rfl) dX4_take_10 (fun r2 z1 H locs hq h => ?_)
  rw [hq.1] at h
  have er2 : r2 = 2 := hq.2
  subst er2
  refine lv_icmp_eq (tgt := 18) (pc := 13) C.1 C.2.1 dX4_take_13 (by decide) (fun c3 => ?_) (fun c3 => ?_)
  · have hw := hw.1 c3
    refine lv_iconst (v := 0) (pc := 18) C.1 C.2.1 dX4_take_18 (by decide) ?_
    have hw := hw (fun (v4 : Int32) => ∀ (H : Heap) (locs : List Loc) (ls : Array Slot), wd D t A s (wX t a z) H locs → lv_has ls 3 [(0, .ref (a 37)), (1, .ref (t.2.2.2.1 4)), (2, .int v4)] → W p l e (rmd 4) s m args below meth c H locs 0 0 (QI D t A (wX t a) P below args s) (F0 m 20 ls [])) (by
        intro v4 hw H locs ls h hl
        refine lv_iload_n (pc := 20) C.1 C.2.1 dX4_take_20 rfl (lv_at hl 2 rfl) ?_
        refine lv_aload_n (pc := 21) C.1 C.2.1 dX4_take_21 rfl (lv_at hl 1 rfl) ?_
        refine cl_ti (pc := 22) (i := 4) (As := []) (rest := [.int v4]) C h (m_length l D t (wX t a) z 4 (by decide)) mw_J0_length_8abf5 lm_X4_89 md_J0_length_8abf5 (by decide) rfl ⟨by decide, by decide⟩ ⟨Nat.zero_le _, Nat.zero_le _⟩ hl.1 rfl (Nat.le_of_ble_eq_true rfl) dX4_take_22 (fun r7 z6 H locs hq h => ?_)
        rw [hq.1] at h
        have er7 : r7 = 2 := hq.2
        subst er7
        refine lv_icmp_ge (tgt := 55) (pc := 25) C.1 C.2.1 dX4_take_25 (by decide) (fun c8 => ?_) (fun c8 => ?_)
        · have hw := hw.1 c8
          refine lv_aload_n (pc := 55) C.1 C.2.1 dX4_take_55 rfl (lv_at hl 0 rfl) ?_
          refine cl_vv (pc := 56) (As := []) (rest := []) C h (m_X4_next l D t a z _ hw) mw_X4_next lm_X4_30 md_X4_next rcX_37 ⟨by decide, by decide⟩ ⟨Nat.zero_le _, Nat.zero_le _⟩ hl.1 rfl (Nat.le_of_ble_eq_true rfl) dX4_take_56 (fun z9 H locs hw h => ?_)
          refine lv_iconst (v := 1) (pc := 59) C.1 C.2.1 dX4_take_59 (by decide) ?_
          exact rt_z (pc := 60) C hr hlk h (Or.inr rfl) hw dX4_take_60
        · have hw := hw.2 c8
          refine lv_aload_n (pc := 28) C.1 C.2.1 dX4_take_28 rfl (lv_at hl 0 rfl) ?_
          refine GX_X4_9_37 (pc := 29) C h dX4_take_29 ?_
          refine lv_aload_n (pc := 32) C.1 C.2.1 dX4_take_32 rfl (lv_at hl 0 rfl) ?_
          refine GX_X4_19_37 (pc := 33) C h dX4_take_33 ?_
          refine lv_iload_n (pc := 36) C.1 C.2.1 dX4_take_36 rfl (lv_at hl 2 rfl) ?_
          refine lv_iadd (pc := 37) C.1 C.2.1 dX4_take_37 ?_
          refine ldX_38 (pc := 38) C h hw.1 dX4_take_38 ?_
          have hw := hw.2
          refine lv_aload_n (pc := 39) C.1 C.2.1 dX4_take_39 rfl (lv_at hl 1 rfl) ?_
          refine lv_iload_n (pc := 40) C.1 C.2.1 dX4_take_40 rfl (lv_at hl 2 rfl) ?_
          refine cl_ti (pc := 41) (i := 4) (As := [.int v4]) (rest := [.int (gF z 38 ((gI z 3702) + v4).toNatClampNeg)]) C h (m_charAt l D t (wX t a) z 4 (by decide) v4 hw.1) mw_J0_charAt_5068e lm_X4_93 md_J0_charAt_5068e (by decide) rfl ⟨by decide, by decide⟩ ⟨Nat.zero_le _, Nat.zero_le _⟩ hl.1 rfl (Nat.le_of_ble_eq_true rfl) dX4_take_41 (fun r12 z11 H locs hq h => ?_)
          rw [hq.1] at h
          have er12 := hq.2
          subst er12
          have hw := hw.2
          refine lv_icmp_eq (tgt := 49) (pc := 44) C.1 C.2.1 dX4_take_44 (by decide) (fun c13 => ?_) (fun c13 => ?_)
          · have hw := hw.1 c13
            obtain ⟨x14, ex14⟩ : ∃ y : Int32, y = v4 + (1) := ⟨_, rfl⟩
            have hw := hw x14 ex14
            refine lv_iinc (v := x14) (lv' := [(2, .int x14), (0, .ref (a 37)), (1, .ref (t.2.2.2.1 4))]) (pc := 49) C.1 C.2.1 dX4_take_49 hl (k := 2) rfl (by rw [ex14]; rfl) (by decide) rfl (fun ls hl => ?_)
            refine lv_goto (tgt := 20) (pc := 52) C.1 C.2.1 dX4_take_52 (by decide) ?_
            exact hw _ _ _ h (lv_sub hl [1, 2, 0] rfl)
          · have hw := hw.2 c13
            refine lv_iconst (v := 0) (pc := 47) C.1 C.2.1 dX4_take_47 (by decide) ?_
            exact rt_z (pc := 48) C hr hlk h (Or.inl rfl) hw dX4_take_48)
    refine lv_istore_n (lv' := [(2, .int ((0 : Int32))), (0, .ref (a 37)), (1, .ref (t.2.2.2.1 4))]) (pc := 19) C.1 C.2.1 dX4_take_19 rfl hl (by decide) rfl (fun ls hl => ?_)
    exact hw _ _ _ h (lv_sub hl [1, 2, 0] rfl)
  · have hw := hw.2 c3
    refine lv_iconst (v := 0) (pc := 16) C.1 C.2.1 dX4_take_16 (by decide) ?_
    exact rt_z (pc := 17) C hr hlk h (Or.inl rfl) hw dX4_take_17

def wp_X5_addQuiet_c52 (b1 : Int32) (b2 : Int32) (b3 : Int32) (z : St) (P : St → Prop) : Prop :=
  (∀ K2 : Int32 → St → Prop, (∀ (v1 : Int32) (z3 : St), (((((24 : Int32)) ≤ v1) → P z3) ∧ (¬ (((24 : Int32)) ≤ v1) → (∀ K6 : Int32 → Prop, (∀ (s5 : Int32), (∀ K8 : Int32 → Prop, (∀ (s7 : Int32), (∀ K9 : St → Prop, (∀ (z10 : St), (∀ x11 : Int32, x11 = v1 + (1) → K2 x11 z10) → K9 z10) → (∀ K12 : Prop, ((vp_in b1 4 ∧ (vp_in b1 4 ∧ (∀ z13 : St, z13 = wR z3 53 (upd (gF z3 53) b1.toNatClampNeg ((gF z3 53 b1.toNatClampNeg) ||| (((1 : Int32)) <<< (v1 &&& 31)))) → K9 z13))) → K12) → (((b3 < b2) → (((¬ s5 = 0) → K12) ∧ (s5 = 0 → (((s7 = 0) → K9 z3) ∧ (¬ (s7 = 0) → K12))))) ∧ (¬ (b3 < b2) → (((s5 = 0) → K9 z3) ∧ (¬ (s5 = 0) → (((s7 = 0) → K9 z3) ∧ (¬ (s7 = 0) → K12)))))))) → K8 s7) → (((b3 < v1) → K8 ((0 : Int32))) ∧ (¬ (b3 < v1) → K8 ((1 : Int32))))) → K6 s5) → (((v1 < b2) → K6 ((0 : Int32))) ∧ (¬ (v1 < b2) → K6 ((1 : Int32))))))) → K2 v1 z3) → K2 ((0 : Int32)) z)
set_option maxHeartbeats 4000000 in
set_option maxRecDepth 100000 in
theorem m_X5_addQuiet_c52 (l : Launch) (D : va_G) (t : Ty3) (a : Nat → Nat) (b1 : Int32) (b2 : Int32) (b3 : Int32) (z : St) (P : St → Prop) (hw : wp_X5_addQuiet_c52 b1 b2 b3 z P) : CtV l D t yX5_addQuiet cX5_addQuiet 7 none 0 (wX t a) (wX t a z) [.ref (a 52), .int b1, .int b2, .int b3] P := by
  refine ctV_of (by decide) (Nat.le_of_ble_eq_true rfl) ?_
  intro p e s m args below meth c A ls C hr hlk h hl
  have hl : lv_has ls 7 [(0, .ref (a 52)), (1, .int b1), (2, .int b2), (3, .int b3)] := hl
  unfold wp_X5_addQuiet_c52 at hw
  refine lv_iconst (v := 0) (pc := 0) C.1 C.2.1 dX5_addQuiet_0 (by decide) ?_
  have hw := hw (fun (v1 : Int32) (z3 : St) => ∀ (H : Heap) (locs : List Loc) (ls : Array Slot), wd D t A s (wX t a z3) H locs → lv_has ls 7 [(0, .ref (a 52)), (1, .int b1), (2, .int b2), (3, .int b3), (4, .int v1)] → W p l e (rmd 0) s m args below meth c H locs 0 0 (QV D t A (wX t a) P below args s) (F0 m 3 ls [])) (by
      intro v1 z3 hw H locs ls h hl
      refine lv_iload (pc := 3) C.1 C.2.1 dX5_addQuiet_3 (lv_at hl 4 rfl) ?_
      refine lv_bipush (v := 24) (pc := 5) C.1 C.2.1 dX5_addQuiet_5 (by decide) ?_
      refine lv_icmp_ge (tgt := 83) (pc := 7) C.1 C.2.1 dX5_addQuiet_7 (by decide) (fun c4 => ?_) (fun c4 => ?_)
      · have hw := hw.1 c4
        exact rt_v (pc := 83) C hr hlk h hw dX5_addQuiet_83
      · have hw := hw.2 c4
        refine lv_iload (pc := 10) C.1 C.2.1 dX5_addQuiet_10 (lv_at hl 4 rfl) ?_
        refine lv_iload_n (pc := 12) C.1 C.2.1 dX5_addQuiet_12 rfl (lv_at hl 2 rfl) ?_
        have hw := hw (fun (s5 : Int32) => ∀ (H : Heap) (locs : List Loc) (ls : Array Slot), wd D t A s (wX t a z3) H locs → lv_has ls 7 [(0, .ref (a 52)), (1, .int b1), (2, .int b2), (3, .int b3), (4, .int v1)] → W p l e (rmd 0) s m args below meth c H locs 0 0 (QV D t A (wX t a) P below args s) (F0 m 21 ls [.int s5])) (by
            intro s5 hw H locs ls h hl
            refine lv_istore (lv' := [(5, .int s5), (0, .ref (a 52)), (1, .int b1), (2, .int b2), (3, .int b3), (4, .int v1)]) (pc := 21) C.1 C.2.1 dX5_addQuiet_21 hl (by decide) rfl (fun ls hl => ?_)
            refine lv_iload (pc := 23) C.1 C.2.1 dX5_addQuiet_23 (lv_at hl 5 rfl) ?_
            refine lv_iload_n (pc := 25) C.1 C.2.1 dX5_addQuiet_25 rfl (lv_at hl 4 rfl) ?_
            have hw := hw (fun (s7 : Int32) => ∀ (H : Heap) (locs : List Loc) (ls : Array Slot), wd D t A s (wX t a z3) H locs → lv_has ls 7 [(0, .ref (a 52)), (1, .int b1), (2, .int b2), (3, .int b3), (4, .int v1), (5, .int s5)] → W p l e (rmd 0) s m args below meth c H locs 0 0 (QV D t A (wX t a) P below args s) (F0 m 34 ls [.int s7])) (by
                intro s7 hw H locs ls h hl
                refine lv_istore (lv' := [(6, .int s7), (0, .ref (a 52)), (1, .int b1), (2, .int b2), (3, .int b3), (4, .int v1), (5, .int s5)]) (pc := 34) C.1 C.2.1 dX5_addQuiet_34 hl (by decide) rfl (fun ls hl => ?_)
                refine lv_iload_n (pc := 36) C.1 C.2.1 dX5_addQuiet_36 rfl (lv_at hl 3 rfl) ?_
                refine lv_iload_n (pc := 37) C.1 C.2.1 dX5_addQuiet_37 rfl (lv_at hl 4 rfl) ?_
                have hw := hw (fun (z10 : St) => ∀ (H : Heap) (locs : List Loc) (ls : Array Slot), wd D t A s (wX t a z10) H locs → lv_has ls 7 [(0, .ref (a 52)), (1, .int b1), (2, .int b2), (3, .int b3), (4, .int v1)] → W p l e (rmd 0) s m args below meth c H locs 0 0 (QV D t A (wX t a) P below args s) (F0 m 77 ls [])) (by
                    intro z10 hw H locs ls h hl
                    obtain ⟨x11, ex11⟩ : ∃ y : Int32, y = v1 + (1) := ⟨_, rfl⟩
                    have hw := hw x11 ex11
                    refine lv_iinc (v := x11) (lv' := [(4, .int x11), (0, .ref (a 52)), (1, .int b1), (2, .int b2), (3, .int b3)]) (pc := 77) C.1 C.2.1 dX5_addQuiet_77 hl (k := 4) rfl (by rw [ex11]; rfl) (by decide) rfl (fun ls hl => ?_)
                    refine lv_goto (tgt := 3) (pc := 80) C.1 C.2.1 dX5_addQuiet_80 (by decide) ?_
                    exact hw _ _ _ h (lv_sub hl [1, 2, 3, 4, 0] rfl))
                have hw := hw (∀ (H : Heap) (locs : List Loc) (ls : Array Slot), wd D t A s (wX t a z3) H locs → lv_has ls 7 [(0, .ref (a 52)), (1, .int b1), (2, .int b2), (3, .int b3), (4, .int v1)] → W p l e (rmd 0) s m args below meth c H locs 0 0 (QV D t A (wX t a) P below args s) (F0 m 64 ls [])) (by
                    intro hw H locs ls h hl
                    refine lv_aload_n (pc := 64) C.1 C.2.1 dX5_addQuiet_64 rfl (lv_at hl 0 rfl) ?_
                    refine GX_X5_9_52 (pc := 65) C h dX5_addQuiet_65 ?_
                    refine lv_iload_n (pc := 68) C.1 C.2.1 dX5_addQuiet_68 rfl (lv_at hl 1 rfl) ?_
                    refine lv_dup2_11 (pc := 69) C.1 C.2.1 dX5_addQuiet_69 rfl rfl ?_
                    refine ldX_53 (pc := 70) C h hw.1 dX5_addQuiet_70 ?_
                    have hw := hw.2
                    refine lv_iconst (v := 1) (pc := 71) C.1 C.2.1 dX5_addQuiet_71 (by decide) ?_
                    refine lv_iload (pc := 72) C.1 C.2.1 dX5_addQuiet_72 (lv_at hl 4 rfl) ?_
                    refine lv_ishl (pc := 74) C.1 C.2.1 dX5_addQuiet_74 ?_
                    refine lv_ior (pc := 75) C.1 C.2.1 dX5_addQuiet_75 ?_
                    refine stX_53 (pc := 76) C h hw.1 dX5_addQuiet_76 (fun z13 ez13 H locs h => ?_)
                    have hw := hw.2 z13 ez13
                    exact hw _ _ _ h (lv_sub hl [0, 1, 2, 3, 4] rfl))
                refine lv_icmp_gt (tgt := 54) (pc := 38) C.1 C.2.1 dX5_addQuiet_38 (by decide) (fun c14 => ?_) (fun c14 => ?_)
                · have hw := hw.1 c14
                  refine lv_iload (pc := 54) C.1 C.2.1 dX5_addQuiet_54 (lv_at hl 6 rfl) ?_
                  refine lv_if_ne (tgt := 64) (pc := 56) C.1 C.2.1 dX5_addQuiet_56 (by decide) (fun c15 => ?_) (fun c15 => ?_)
                  · have hw := hw.1 c15
                    exact hw _ _ _ h (lv_sub hl [1, 2, 3, 4, 5] rfl)
                  · have hw := hw.2 c15
                    refine lv_iload (pc := 59) C.1 C.2.1 dX5_addQuiet_59 (lv_at hl 0 rfl) ?_
                    refine lv_if_eq (tgt := 77) (pc := 61) C.1 C.2.1 dX5_addQuiet_61 (by decide) (fun c16 => ?_) (fun c16 => ?_)
                    · have hw := hw.1 c16
                      exact hw _ _ _ h (lv_sub hl [1, 2, 3, 4, 5] rfl)
                    · have hw := hw.2 c16
                      exact hw _ _ _ h (lv_sub hl [1, 2, 3, 4, 5] rfl)
                · have hw := hw.2 c14
                  refine lv_iload (pc := 41) C.1 C.2.1 dX5_addQuiet_41 (lv_at hl 6 rfl) ?_
                  refine lv_if_eq (tgt := 77) (pc := 43) C.1 C.2.1 dX5_addQuiet_43 (by decide) (fun c17 => ?_) (fun c17 => ?_)
                  · have hw := hw.1 c17
                    exact hw _ _ _ h (lv_sub hl [1, 2, 3, 4, 5] rfl)
                  · have hw := hw.2 c17
                    refine lv_iload (pc := 46) C.1 C.2.1 dX5_addQuiet_46 (lv_at hl 0 rfl) ?_
                    refine lv_if_eq (tgt := 77) (pc := 48) C.1 C.2.1 dX5_addQuiet_48 (by decide) (fun c18 => ?_) (fun c18 => ?_)
                    · have hw := hw.1 c18
                      exact hw _ _ _ h (lv_sub hl [1, 2, 3, 4, 5] rfl)
                    · have hw := hw.2 c18
                      refine lv_goto (tgt := 64) (pc := 51) C.1 C.2.1 dX5_addQuiet_51 (by decide) ?_
                      exact hw _ _ _ h (lv_sub hl [1, 2, 3, 4, 5] rfl))
            refine lv_icmp_gt (tgt := 33) (pc := 26) C.1 C.2.1 dX5_addQuiet_26 (by decide) (fun c19 => ?_) (fun c19 => ?_)
            · have hw := hw.1 c19
              refine lv_iconst (v := 0) (pc := 33) C.1 C.2.1 dX5_addQuiet_33 (by decide) ?_
              exact hw _ _ _ h (lv_sub hl [1, 2, 3, 4, 5, 0] rfl)
            · have hw := hw.2 c19
              refine lv_iconst (v := 1) (pc := 29) C.1 C.2.1 dX5_addQuiet_29 (by decide) ?_
              refine lv_goto (tgt := 34) (pc := 30) C.1 C.2.1 dX5_addQuiet_30 (by decide) ?_
              exact hw _ _ _ h (lv_sub hl [1, 2, 3, 4, 5, 0] rfl))
        refine lv_icmp_lt (tgt := 20) (pc := 13) C.1 C.2.1 dX5_addQuiet_13 (by decide) (fun c20 => ?_) (fun c20 => ?_)
        · have hw := hw.1 c20
          refine lv_iconst (v := 0) (pc := 20) C.1 C.2.1 dX5_addQuiet_20 (by decide) ?_
          exact hw _ _ _ h (lv_sub hl [0, 1, 2, 3, 4] rfl)
        · have hw := hw.2 c20
          refine lv_iconst (v := 1) (pc := 16) C.1 C.2.1 dX5_addQuiet_16 (by decide) ?_
          refine lv_goto (tgt := 21) (pc := 17) C.1 C.2.1 dX5_addQuiet_17 (by decide) ?_
          exact hw _ _ _ h (lv_sub hl [0, 1, 2, 3, 4] rfl))
  refine lv_istore (lv' := [(4, .int ((0 : Int32))), (0, .ref (a 52)), (1, .int b1), (2, .int b2), (3, .int b3)]) (pc := 1) C.1 C.2.1 dX5_addQuiet_1 hl (by decide) rfl (fun ls hl => ?_)
  exact hw _ _ _ h (lv_sub hl [1, 2, 3, 4, 0] rfl)

def wp_X4_readQuiet_52  (z : St) (P : Int32 → St → Prop) : Prop :=
  (wp_X4_takeNumber ((3 : Int32)) z (fun r2 z1 => (((r2 = ((-1 : Int32))) → P ((0 : Int32)) z1) ∧ (¬ (r2 = ((-1 : Int32))) → (wp_X4_take_s3 z1 (fun r5 z4 => (((¬ r5 = 0) → (wp_X4_takeNumber ((23 : Int32)) z4 (fun r8 z7 => (((r8 = ((-1 : Int32))) → P ((0 : Int32)) z7) ∧ (¬ (r8 = ((-1 : Int32))) → (wp_X4_take_s4 z7 (fun r11 z10 => (((¬ r11 = 0) → (wp_X4_takeNumber ((23 : Int32)) z10 (fun r14 z13 => (((¬ r14 = ((-1 : Int32))) → (wp_X5_addQuiet_c52 r2 r8 r14 z13 (fun z16 => P ((1 : Int32)) z16))) ∧ (r14 = ((-1 : Int32)) → P ((0 : Int32)) z13))))) ∧ (r11 = 0 → P ((0 : Int32)) z10))))))))) ∧ (r5 = 0 → P ((0 : Int32)) z4))))))))
set_option maxHeartbeats 4000000 in
set_option maxRecDepth 100000 in
theorem m_X4_readQuiet_52 (l : Launch) (D : va_G) (t : Ty3) (a : Nat → Nat)  (z : St) (P : Int32 → St → Prop) (hw : wp_X4_readQuiet_52 z P) : CtI l D t yX4_readQuiet cX4_readQuiet 5 (some .boolean) 5 (wX t a) (wX t a z) [.ref (a 37), .ref (a 52)] P := by
  refine ctI_of (by decide) (Nat.le_of_ble_eq_true rfl) ?_
  intro p e s m args below meth c A ls C hr hlk h hl
  have hl : lv_has ls 5 [(0, .ref (a 37)), (1, .ref (a 52))] := hl
  unfold wp_X4_readQuiet_52 at hw
  refine lv_aload_n (pc := 0) C.1 C.2.1 dX4_readQuiet_0 rfl (lv_at hl 0 rfl) ?_
  refine lv_iconst (v := 3) (pc := 1) C.1 C.2.1 dX4_readQuiet_1 (by decide) ?_
  refine cl_vi (pc := 2) (As := [.int ((3 : Int32))]) (rest := []) C h (m_X4_takeNumber l D t a ((3 : Int32)) z _ hw) mw_X4_takeNumber lm_X4_61 md_X4_takeNumber rcX_37 ⟨by decide, by decide⟩ ⟨Nat.zero_le _, Nat.zero_le _⟩ hl.1 rfl (Nat.le_of_ble_eq_true rfl) dX4_readQuiet_2 (fun r2 z1 H locs hw h => ?_)
  refine lv_istore_n (lv' := [(2, .int r2), (0, .ref (a 37)), (1, .ref (a 52))]) (pc := 5) C.1 C.2.1 dX4_readQuiet_5 rfl hl (by decide) rfl (fun ls hl => ?_)
  refine lv_iload_n (pc := 6) C.1 C.2.1 dX4_readQuiet_6 rfl (lv_at hl 0 rfl) ?_
  refine lv_iconst (v := -1) (pc := 7) C.1 C.2.1 dX4_readQuiet_7 (by decide) ?_
  refine lv_icmp_eq (tgt := 20) (pc := 8) C.1 C.2.1 dX4_readQuiet_8 (by decide) (fun c3 => ?_) (fun c3 => ?_)
  · have hw := hw.1 c3
    refine lv_iconst (v := 0) (pc := 20) C.1 C.2.1 dX4_readQuiet_20 (by decide) ?_
    exact rt_z (pc := 21) C hr hlk h (Or.inl rfl) hw dX4_readQuiet_21
  · have hw := hw.2 c3
    refine lv_aload_n (pc := 11) C.1 C.2.1 dX4_readQuiet_11 rfl (lv_at hl 1 rfl) ?_
    refine r_ldcS (pc := 12) (i := 3) C h (by decide) rfl dX4_readQuiet_12 ?_
    refine cl_vi (pc := 14) (As := [.ref (t.2.2.2.1 3)]) (rest := []) C h (m_X4_take_s3 l D t a z1 _ hw) mw_X4_take lm_X4_42 md_X4_take rcX_37 ⟨by decide, by decide⟩ ⟨Nat.zero_le _, Nat.zero_le _⟩ hl.1 rfl (Nat.le_of_ble_eq_true rfl) dX4_readQuiet_14 (fun r5 z4 H locs hw h => ?_)
    refine lv_if_ne (tgt := 22) (pc := 17) C.1 C.2.1 dX4_readQuiet_17 (by decide) (fun c6 => ?_) (fun c6 => ?_)
    · have hw := hw.1 c6
      refine lv_aload_n (pc := 22) C.1 C.2.1 dX4_readQuiet_22 rfl (lv_at hl 1 rfl) ?_
      refine lv_bipush (v := 23) (pc := 23) C.1 C.2.1 dX4_readQuiet_23 (by decide) ?_
      refine cl_vi (pc := 25) (As := [.int ((23 : Int32))]) (rest := []) C h (m_X4_takeNumber l D t a ((23 : Int32)) z4 _ hw) mw_X4_takeNumber lm_X4_61 md_X4_takeNumber rcX_37 ⟨by decide, by decide⟩ ⟨Nat.zero_le _, Nat.zero_le _⟩ hl.1 rfl (Nat.le_of_ble_eq_true rfl) dX4_readQuiet_25 (fun r8 z7 H locs hw h => ?_)
      refine lv_istore_n (lv' := [(3, .int r8), (2, .int r2), (0, .ref (a 37)), (1, .ref (a 52))]) (pc := 28) C.1 C.2.1 dX4_readQuiet_28 rfl hl (by decide) rfl (fun ls hl => ?_)
      refine lv_iload_n (pc := 29) C.1 C.2.1 dX4_readQuiet_29 rfl (lv_at hl 0 rfl) ?_
      refine lv_iconst (v := -1) (pc := 30) C.1 C.2.1 dX4_readQuiet_30 (by decide) ?_
      refine lv_icmp_eq (tgt := 43) (pc := 31) C.1 C.2.1 dX4_readQuiet_31 (by decide) (fun c9 => ?_) (fun c9 => ?_)
      · have hw := hw.1 c9
        refine lv_iconst (v := 0) (pc := 43) C.1 C.2.1 dX4_readQuiet_43 (by decide) ?_
        exact rt_z (pc := 44) C hr hlk h (Or.inl rfl) hw dX4_readQuiet_44
      · have hw := hw.2 c9
        refine lv_aload_n (pc := 34) C.1 C.2.1 dX4_readQuiet_34 rfl (lv_at hl 2 rfl) ?_
        refine r_ldcS (pc := 35) (i := 4) C h (by decide) rfl dX4_readQuiet_35 ?_
        refine cl_vi (pc := 37) (As := [.ref (t.2.2.2.1 4)]) (rest := []) C h (m_X4_take_s4 l D t a z7 _ hw) mw_X4_take lm_X4_42 md_X4_take rcX_37 ⟨by decide, by decide⟩ ⟨Nat.zero_le _, Nat.zero_le _⟩ hl.1 rfl (Nat.le_of_ble_eq_true rfl) dX4_readQuiet_37 (fun r11 z10 H locs hw h => ?_)
        refine lv_if_ne (tgt := 45) (pc := 40) C.1 C.2.1 dX4_readQuiet_40 (by decide) (fun c12 => ?_) (fun c12 => ?_)
        · have hw := hw.1 c12
          refine lv_aload_n (pc := 45) C.1 C.2.1 dX4_readQuiet_45 rfl (lv_at hl 2 rfl) ?_
          refine lv_bipush (v := 23) (pc := 46) C.1 C.2.1 dX4_readQuiet_46 (by decide) ?_
          refine cl_vi (pc := 48) (As := [.int ((23 : Int32))]) (rest := []) C h (m_X4_takeNumber l D t a ((23 : Int32)) z10 _ hw) mw_X4_takeNumber lm_X4_61 md_X4_takeNumber rcX_37 ⟨by decide, by decide⟩ ⟨Nat.zero_le _, Nat.zero_le _⟩ hl.1 rfl (Nat.le_of_ble_eq_true rfl) dX4_readQuiet_48 (fun r14 z13 H locs hw h => ?_)
          refine lv_istore (lv' := [(4, .int r14), (3, .int r8), (2, .int r2), (0, .ref (a 37)), (1, .ref (a 52))]) (pc := 51) C.1 C.2.1 dX4_readQuiet_51 hl (by decide) rfl (fun ls hl => ?_)
          refine lv_iload (pc := 53) C.1 C.2.1 dX4_readQuiet_53 (lv_at hl 0 rfl) ?_
          refine lv_iconst (v := -1) (pc := 55) C.1 C.2.1 dX4_readQuiet_55 (by decide) ?_
          refine lv_icmp_ne (tgt := 61) (pc := 56) C.1 C.2.1 dX4_readQuiet_56 (by decide) (fun c15 => ?_) (fun c15 => ?_)
          · have hw := hw.1 c15
            refine lv_aload_n (pc := 61) C.1 C.2.1 dX4_readQuiet_61 rfl (lv_at hl 4 rfl) ?_
            refine lv_iload_n (pc := 62) C.1 C.2.1 dX4_readQuiet_62 rfl (lv_at hl 2 rfl) ?_
            refine lv_iload_n (pc := 63) C.1 C.2.1 dX4_readQuiet_63 rfl (lv_at hl 1 rfl) ?_
            refine lv_iload (pc := 64) C.1 C.2.1 dX4_readQuiet_64 (lv_at hl 0 rfl) ?_
            refine cl_vv (pc := 66) (As := [.int r2, .int r8, .int r14]) (rest := []) C h (m_X5_addQuiet_c52 l D t a r2 r8 r14 z13 _ hw) mw_X5_addQuiet lm_X4_69 md_X5_addQuiet rcX_52 ⟨by decide, by decide⟩ ⟨Nat.zero_le _, Nat.zero_le _⟩ hl.1 rfl (Nat.le_of_ble_eq_true rfl) dX4_readQuiet_66 (fun z16 H locs hw h => ?_)
            refine lv_iconst (v := 1) (pc := 69) C.1 C.2.1 dX4_readQuiet_69 (by decide) ?_
            exact rt_z (pc := 70) C hr hlk h (Or.inr rfl) hw dX4_readQuiet_70
          · have hw := hw.2 c15
            refine lv_iconst (v := 0) (pc := 59) C.1 C.2.1 dX4_readQuiet_59 (by decide) ?_
            exact rt_z (pc := 60) C hr hlk h (Or.inl rfl) hw dX4_readQuiet_60
        · have hw := hw.2 c12
          refine lv_iconst (v := 0) (pc := 43) C.1 C.2.1 dX4_readQuiet_43 (by decide) ?_
          exact rt_z (pc := 44) C hr hlk h (Or.inl rfl) hw dX4_readQuiet_44
    · have hw := hw.2 c6
      refine lv_iconst (v := 0) (pc := 20) C.1 C.2.1 dX4_readQuiet_20 (by decide) ?_
      exact rt_z (pc := 21) C hr hlk h (Or.inl rfl) hw dX4_readQuiet_21
