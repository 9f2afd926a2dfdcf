def wp_X4_readRule_52  (z : St) (P : Int32 → St → Prop) : Prop :=
  (wp_X4_take_s0 z (fun r2 z1 => (((r2 = 0) → (wp_X4_take_s1 z1 (fun r5 z4 => (((r5 = 0) → (wp_X4_take_s2 z4 (fun r8 z7 => (((r8 = 0) → P ((0 : Int32)) z7) ∧ (¬ (r8 = 0) → (wp_X4_readBefore_52 z7 (fun r11 z10 => (((r11 = 0) → P ((0 : Int32)) z10) ∧ (¬ (r11 = 0) → P ((1 : Int32)) z10))))))))) ∧ (¬ (r5 = 0) → (wp_X4_readDear_52 z4 (fun r14 z13 => ((r14 = 0 ∨ r14 = 1) ∧ P r14 z13)))))))) ∧ (¬ (r2 = 0) → (wp_X4_readQuiet_52 z1 (fun r16 z15 => ((r16 = 0 ∨ r16 = 1) ∧ P r16 z15)))))))
set_option maxHeartbeats 4000000 in
set_option maxRecDepth 100000 in
theorem m_X4_readRule_52 (l : Launch) (D : va_G) (t : Ty3) (a : Nat → Nat)  (z : St) (P : Int32 → St → Prop) (hw : wp_X4_readRule_52 z P) : CtI l D t yX4_readRule cX4_readRule 2 (some .boolean) 6 (wX t a) (wX t a z) [.ref (a 37), .ref (a 52)] P := by
  refine ctI_of (by decide) (Nat.le_of_ble_eq_true rfl) ?_
  intro p e s m args below meth c A ls C hr hlk h hl
  have hl : lv_has ls 2 [(0, .ref (a 37)), (1, .ref (a 52))] := hl
  unfold wp_X4_readRule_52 at hw
  refine lv_aload_n (pc := 0) C.1 C.2.1 dX4_readRule_0 rfl (lv_at hl 0 rfl) ?_
  refine r_ldcS (pc := 1) (i := 0) C h (by decide) rfl dX4_readRule_1 ?_
  refine cl_vi (pc := 3) (As := [.ref (t.2.2.2.1 0)]) (rest := []) C h (m_X4_take_s0 l D t a z _ hw) mw_X4_take lm_X4_42 md_X4_take rcX_37 ⟨by decide, by decide⟩ ⟨Nat.zero_le _, Nat.zero_le _⟩ hl.1 rfl (Nat.le_of_ble_eq_true rfl) dX4_readRule_3 (fun r2 z1 H locs hw h => ?_)
  refine lv_if_eq (tgt := 15) (pc := 6) C.1 C.2.1 dX4_readRule_6 (by decide) (fun c3 => ?_) (fun c3 => ?_)
  · have hw := hw.1 c3
    refine lv_aload_n (pc := 15) C.1 C.2.1 dX4_readRule_15 rfl (lv_at hl 0 rfl) ?_
    refine r_ldcS (pc := 16) (i := 1) C h (by decide) rfl dX4_readRule_16 ?_
    refine cl_vi (pc := 18) (As := [.ref (t.2.2.2.1 1)]) (rest := []) C h (m_X4_take_s1 l D t a z1 _ hw) mw_X4_take lm_X4_42 md_X4_take rcX_37 ⟨by decide, by decide⟩ ⟨Nat.zero_le _, Nat.zero_le _⟩ hl.1 rfl (Nat.le_of_ble_eq_true rfl) dX4_readRule_18 (fun r5 z4 H locs hw h => ?_)
    refine lv_if_eq (tgt := 30) (pc := 21) C.1 C.2.1 dX4_readRule_21 (by decide) (fun c6 => ?_) (fun c6 => ?_)
    · have hw := hw.1 c6
      refine lv_aload_n (pc := 30) C.1 C.2.1 dX4_readRule_30 rfl (lv_at hl 0 rfl) ?_
      refine r_ldcS (pc := 31) (i := 2) C h (by decide) rfl dX4_readRule_31 ?_
      refine cl_vi (pc := 33) (As := [.ref (t.2.2.2.1 2)]) (rest := []) C h (m_X4_take_s2 l D t a z4 _ hw) mw_X4_take lm_X4_42 md_X4_take rcX_37 ⟨by decide, by decide⟩ ⟨Nat.zero_le _, Nat.zero_le _⟩ hl.1 rfl (Nat.le_of_ble_eq_true rfl) dX4_readRule_33 (fun r8 z7 H locs hw h => ?_)
      refine lv_if_eq (tgt := 51) (pc := 36) C.1 C.2.1 dX4_readRule_36 (by decide) (fun c9 => ?_) (fun c9 => ?_)
      · have hw := hw.1 c9
        refine lv_iconst (v := 0) (pc := 51) C.1 C.2.1 dX4_readRule_51 (by decide) ?_
        exact rt_z (pc := 52) C hr hlk h (Or.inl rfl) hw dX4_readRule_52
      · have hw := hw.2 c9
        refine lv_aload_n (pc := 39) C.1 C.2.1 dX4_readRule_39 rfl (lv_at hl 0 rfl) ?_
        refine lv_aload_n (pc := 40) C.1 C.2.1 dX4_readRule_40 rfl (lv_at hl 1 rfl) ?_
        refine cl_vi (pc := 41) (As := [.ref (a 52)]) (rest := []) C h (m_X4_readBefore_52 l D t a z7 _ hw) mw_X4_readBefore lm_X4_58 md_X4_readBefore rcX_37 ⟨by decide, by decide⟩ ⟨Nat.zero_le _, Nat.zero_le _⟩ hl.1 rfl (Nat.le_of_ble_eq_true rfl) dX4_readRule_41 (fun r11 z10 H locs hw h => ?_)
        refine lv_if_eq (tgt := 51) (pc := 44) C.1 C.2.1 dX4_readRule_44 (by decide) (fun c12 => ?_) (fun c12 => ?_)
        · have hw := hw.1 c12
          refine lv_iconst (v := 0) (pc := 51) C.1 C.2.1 dX4_readRule_51 (by decide) ?_
          exact rt_z (pc := 52) C hr hlk h (Or.inl rfl) hw dX4_readRule_52
        · have hw := hw.2 c12
          refine lv_iconst (v := 1) (pc := 47) C.1 C.2.1 dX4_readRule_47 (by decide) ?_
          refine lv_goto (tgt := 52) (pc := 48) C.1 C.2.1 dX4_readRule_48 (by decide) ?_
          exact rt_z (pc := 52) C hr hlk h (Or.inr rfl) hw dX4_readRule_52
    · have hw := hw.2 c6
      refine lv_aload_n (pc := 24) C.1 C.2.1 dX4_readRule_24 rfl (lv_at hl 0 rfl) ?_
      refine lv_aload_n (pc := 25) C.1 C.2.1 dX4_readRule_25 rfl (lv_at hl 1 rfl) ?_
      refine cl_vi (pc := 26) (As := [.ref (a 52)]) (rest := []) C h (m_X4_readDear_52 l D t a z4 _ hw) mw_X4_readDear lm_X4_53 md_X4_readDear rcX_37 ⟨by decide, by decide⟩ ⟨Nat.zero_le _, Nat.zero_le _⟩ hl.1 rfl (Nat.le_of_ble_eq_true rfl) dX4_readRule_26 (fun r14 z13 H locs hw h => ?_)
      exact rt_z (pc := 29) C hr hlk h hw.1 hw.2 dX4_readRule_29
  · have hw := hw.2 c3
    refine lv_aload_n (pc := 9) C.1 C.2.1 dX4_readRule_9 rfl (lv_at hl 0 rfl) ?_
    refine lv_aload_n (pc := 10) C.1 C.2.1 dX4_readRule_10 rfl (lv_at hl 1 rfl) ?_
    refine cl_vi (pc := 11) (As := [.ref (a 52)]) (rest := []) C h (m_X4_readQuiet_52 l D t a z1 _ hw) mw_X4_readQuiet lm_X4_48 md_X4_readQuiet rcX_37 ⟨by decide, by decide⟩ ⟨Nat.zero_le _, Nat.zero_le _⟩ hl.1 rfl (Nat.le_of_ble_eq_true rfl) dX4_readRule_11 (fun r16 z15 H locs hw h => ?_)
    exact rt_z (pc := 14) C hr hlk h hw.1 hw.2 dX4_readRule_14

def wp_X4_take_s6  (z : St) (P : Int32 → St → Prop) : Prop :=
  (((((gI z 3703) - (gI z 3702)) = ((1 : Int32))) → (∀ K5 : Int32 → Prop, (∀ (v4 : Int32), (((((1 : Int32)) ≤ v4) → (wp_X4_next z (fun z9 => P ((1 : Int32)) z9))) ∧ (¬ (((1 : Int32)) ≤ v4) → (vp_in ((gI z 3702) + v4) 300 ∧ (vp_in v4 1 ∧ ((((gF z 38 ((gI z 3702) + v4).toNatClampNeg) = (sch 6 v4)) → (∀ x14 : Int32, x14 = v4 + (1) → K5 x14)) ∧ (¬ ((gF z 38 ((gI z 3702) + v4).toNatClampNeg) = (sch 6 v4)) → P ((0 : Int32)) z)))))) → K5 v4) → K5 ((0 : Int32)))) ∧ (¬ (((gI z 3703) - (gI z 3702)) = ((1 : Int32))) → P ((0 : Int32)) z))
set_option maxHeartbeats 4000000 in
set_option maxRecDepth 100000 in
theorem m_X4_take_s6 (l : Launch) (D : va_G) (t : Ty3) (a : Nat → Nat)  (z : St) (P : Int32 → St → Prop) (hw : wp_X4_take_s6 z P) : CtI l D t yX4_take cX4_take 3 (some .boolean) 4 (wX t a) (wX t a z) [.ref (a 37), .ref (t.2.2.2.1 6)] P := by
  refine ctI_of (by decide) (Nat.le_of_ble_eq_true rfl) ?_
  intro p e s m args below meth c A ls C hr hlk h hl
  have hl : lv_has ls 3 [(0, .ref (a 37)), (1, .ref (t.2.2.2.1 6))] := hl
  unfold wp_X4_take_s6 at hw
  refine lv_aload_n (pc := 0) C.1 C.2.1 dX4_take_0 rfl (lv_at hl 0 rfl) ?_
  refine GX_X4_22_37 (pc := 1) C h dX4_take_1 ?_
  refine lv_aload_n (pc := 4) C.1 C.2.1 dX4_take_4 rfl (lv_at hl 0 rfl) ?_
  refine GX_X4_19_37 (pc := 5) C h dX4_take_5 ?_
  refine lv_isub (pc := 8) C.1 C.2.1 dX4_take_8 ?_
  refine lv_aload_n (pc := 9) C.1 C.2.1 dX4_take_9 rfl (lv_at hl 1 rfl) ?_
  refine cl_ti (pc := 10) (i := 6) (As := []) (rest := [.int ((gI z 3703) - (gI z 3702))]) C h (m_length l D t (wX t a) z 6 (by decide)) mw_J0_length_8abf5 lm_X4_89 md_J0_length_8abf5 (by decide) rfl ⟨by decide, by decide⟩ ⟨Nat.zero_le _, Nat.zero_le _⟩ hl.1 rfl (Nat.le_of_ble_eq_true rfl) dX4_take_10 (fun r2 z1 H locs hq h => ?_)
  rw [hq.1] at h
  have er2 : r2 = 1 := hq.2
  subst er2
  refine lv_icmp_eq (tgt := 18) (pc := 13) C.1 C.2.1 dX4_take_13 (by decide) (fun c3 => ?_) (fun c3 => ?_)
  · have hw := hw.1 c3
    refine lv_iconst (v := 0) (pc := 18) C.1 C.2.1 dX4_take_18 (by decide) ?_
    have hw := hw (fun (v4 : Int32) => ∀ (H : Heap) (locs : List Loc) (ls : Array Slot), wd D t A s (wX t a z) H locs → lv_has ls 3 [(0, .ref (a 37)), (1, .ref (t.2.2.2.1 6)), (2, .int v4)] → W p l e (rmd 4) s m args below meth c H locs 0 0 (QI D t A (wX t a) P below args s) (F0 m 20 ls [])) (by
        intro v4 hw H locs ls h hl
        refine lv_iload_n (pc := 20) C.1 C.2.1 dX4_take_20 rfl (lv_at hl 2 rfl) ?_
        refine lv_aload_n (pc := 21) C.1 C.2.1 dX4_take_21 rfl (lv_at hl 1 rfl) ?_
        refine cl_ti (pc := 22) (i := 6) (As := []) (rest := [.int v4]) C h (m_length l D t (wX t a) z 6 (by decide)) mw_J0_length_8abf5 lm_X4_89 md_J0_length_8abf5 (by decide) rfl ⟨by decide, by decide⟩ ⟨Nat.zero_le _, Nat.zero_le _⟩ hl.1 rfl (Nat.le_of_ble_eq_true rfl) dX4_take_22 (fun r7 z6 H locs hq h => ?_)
        rw [hq.1] at h
        have er7 : r7 = 1 := hq.2
        subst er7
        refine lv_icmp_ge (tgt := 55) (pc := 25) C.1 C.2.1 dX4_take_25 (by decide) (fun c8 => ?_) (fun c8 => ?_)
        · have hw := hw.1 c8
          refine lv_aload_n (pc := 55) C.1 C.2.1 dX4_take_55 rfl (lv_at hl 0 rfl) ?_
          refine cl_vv (pc := 56) (As := []) (rest := []) C h (m_X4_next l D t a z _ hw) mw_X4_next lm_X4_30 md_X4_next rcX_37 ⟨by decide, by decide⟩ ⟨Nat.zero_le _, Nat.zero_le _⟩ hl.1 rfl (Nat.le_of_ble_eq_true rfl) dX4_take_56 (fun z9 H locs hw h => ?_)
          refine lv_iconst (v := 1) (pc := 59) C.1 C.2.1 dX4_take_59 (by decide) ?_
          exact rt_z (pc := 60) C hr hlk h (Or.inr rfl) hw dX4_take_60
        · have hw := hw.2 c8
          refine lv_aload_n (pc := 28) C.1 C.2.1 dX4_take_28 rfl (lv_at hl 0 rfl) ?_
          refine GX_X4_9_37 (pc := 29) C h dX4_take_29 ?_
          refine lv_aload_n (pc := 32) C.1 C.2.1 dX4_take_32 rfl (lv_at hl 0 rfl) ?_
          refine GX_X4_19_37 (pc := 33) C h dX4_take_33 ?_
          refine lv_iload_n (pc := 36) C.1 C.2.1 dX4_take_36 rfl (lv_at hl 2 rfl) ?_
          refine lv_iadd (pc := 37) C.1 C.2.1 dX4_take_37 ?_
          refine ldX_38 (pc := 38) C h hw.1 dX4_take_38 ?_
          have hw := hw.2
          refine lv_aload_n (pc := 39) C.1 C.2.1 dX4_take_39 rfl (lv_at hl 1 rfl) ?_
          refine lv_iload_n (pc := 40) C.1 C.2.1 dX4_take_40 rfl (lv_at hl 2 rfl) ?_
          refine cl_ti (pc := 41) (i := 6) (As := [.int v4]) (rest := [.int (gF z 38 ((gI z 3702) + v4).toNatClampNeg)]) C h (m_charAt l D t (wX t a) z 6 (by decide) v4 hw.1) mw_J0_charAt_5068e lm_X4_93 md_J0_charAt_5068e (by decide) rfl ⟨by decide, by decide⟩ ⟨Nat.zero_le _, Nat.zero_le _⟩ hl.1 rfl (Nat.le_of_ble_eq_true rfl) dX4_take_41 (fun r12 z11 H locs hq h => ?_)
          rw [hq.1] at h
          have er12 := hq.2
          subst er12
          have hw := hw.2
          refine lv_icmp_eq (tgt := 49) (pc := 44) C.1 C.2.1 dX4_take_44 (by decide) (fun c13 => ?_) (fun c13 => ?_)
          · have hw := hw.1 c13
            obtain ⟨x14, ex14⟩ : ∃ y : Int32, y = v4 + (1) := ⟨_, rfl⟩
            have hw := hw x14 ex14
            refine lv_iinc (v := x14) (lv' := [(2, .int x14), (0, .ref (a 37)), (1, .ref (t.2.2.2.1 6))]) (pc := 49) C.1 C.2.1 dX4_take_49 hl (k := 2) rfl (by rw [ex14]; rfl) (by decide) rfl (fun ls hl => ?_)
            refine lv_goto (tgt := 20) (pc := 52) C.1 C.2.1 dX4_take_52 (by decide) ?_
            exact hw _ _ _ h (lv_sub hl [1, 2, 0] rfl)
          · have hw := hw.2 c13
            refine lv_iconst (v := 0) (pc := 47) C.1 C.2.1 dX4_take_47 (by decide) ?_
            exact rt_z (pc := 48) C hr hlk h (Or.inl rfl) hw dX4_take_48)
    refine lv_istore_n (lv' := [(2, .int ((0 : Int32))), (0, .ref (a 37)), (1, .ref (t.2.2.2.1 6))]) (pc := 19) C.1 C.2.1 dX4_take_19 rfl hl (by decide) rfl (fun ls hl => ?_)
    exact hw _ _ _ h (lv_sub hl [1, 2, 0] rfl)
  · have hw := hw.2 c3
    refine lv_iconst (v := 0) (pc := 16) C.1 C.2.1 dX4_take_16 (by decide) ?_
    exact rt_z (pc := 17) C hr hlk h (Or.inl rfl) hw dX4_take_17

def wp_X4_read_52  (z : St) (P : Int32 → St → Prop) : Prop :=
  (wp_X5_wipe_c52 z (fun z1 => (∀ z3 : St, z3 = wI z1 3703 ((0 : Int32)) → (wp_X4_next z3 (fun z4 => ((((gI z4 3702) < (gI z4 3701)) → (∀ K8 : Int32 → St → Prop, (∀ (v7 : Int32) (z9 : St), (((((20 : Int32)) ≤ v7) → P ((0 : Int32)) z9) ∧ (¬ (((20 : Int32)) ≤ v7) → (wp_X4_readRule_52 z9 (fun r12 z11 => (((¬ r12 = 0) → (∀ z14 : St, z14 = wI z11 5203 ((gI z11 5203) + ((1 : Int32))) → ((((gI z14 3702) < (gI z14 3701)) → (wp_X4_take_s6 z14 (fun r17 z16 => (((¬ r17 = 0) → (∀ x19 : Int32, x19 = v7 + (1) → K8 x19 z16)) ∧ (r17 = 0 → P ((0 : Int32)) z16))))) ∧ (¬ ((gI z14 3702) < (gI z14 3701)) → P ((1 : Int32)) z14)))) ∧ (r12 = 0 → P ((0 : Int32)) z11)))))) → K8 v7 z9) → K8 ((0 : Int32)) z4)) ∧ (¬ ((gI z4 3702) < (gI z4 3701)) → P ((1 : Int32)) z4)))))))
set_option maxHeartbeats 4000000 in
set_option maxRecDepth 100000 in
theorem m_X4_read_52 (l : Launch) (D : va_G) (t : Ty3) (a : Nat → Nat)  (z : St) (P : Int32 → St → Prop) (hw : wp_X4_read_52 z P) : CtI l D t yX4_read cX4_read 3 (some .boolean) 7 (wX t a) (wX t a z) [.ref (a 37), .ref (a 52)] P := by
  refine ctI_of (by decide) (Nat.le_of_ble_eq_true rfl) ?_
  intro p e s m args below meth c A ls C hr hlk h hl
  have hl : lv_has ls 3 [(0, .ref (a 37)), (1, .ref (a 52))] := hl
  unfold wp_X4_read_52 at hw
  refine lv_aload_n (pc := 0) C.1 C.2.1 dX4_read_0 rfl (lv_at hl 1 rfl) ?_
  refine cl_vv (pc := 1) (As := []) (rest := []) C h (m_X5_wipe_c52 l D t a z _ hw) mw_X5_wipe lm_X4_25 md_X5_wipe rcX_52 ⟨by decide, by decide⟩ ⟨Nat.zero_le _, Nat.zero_le _⟩ hl.1 rfl (Nat.le_of_ble_eq_true rfl) dX4_read_1 (fun z1 H locs hw h => ?_)
  refine lv_aload_n (pc := 4) C.1 C.2.1 dX4_read_4 rfl (lv_at hl 0 rfl) ?_
  refine lv_iconst (v := 0) (pc := 5) C.1 C.2.1 dX4_read_5 (by decide) ?_
  refine PX_X4_22_37 (pc := 6) C h dX4_read_6 (fun z3 ez3 H locs h => ?_)
  have hw := hw z3 ez3
  refine lv_aload_n (pc := 9) C.1 C.2.1 dX4_read_9 rfl (lv_at hl 0 rfl) ?_
  refine cl_vv (pc := 10) (As := []) (rest := []) C h (m_X4_next l D t a z3 _ hw) mw_X4_next lm_X4_30 md_X4_next rcX_37 ⟨by decide, by decide⟩ ⟨Nat.zero_le _, Nat.zero_le _⟩ hl.1 rfl (Nat.le_of_ble_eq_true rfl) dX4_read_10 (fun z4 H locs hw h => ?_)
  refine lv_aload_n (pc := 13) C.1 C.2.1 dX4_read_13 rfl (lv_at hl 0 rfl) ?_
  refine GX_X4_19_37 (pc := 14) C h dX4_read_14 ?_
  refine lv_aload_n (pc := 17) C.1 C.2.1 dX4_read_17 rfl (lv_at hl 0 rfl) ?_
  refine GX_X4_15_37 (pc := 18) C h dX4_read_18 ?_
  refine lv_icmp_lt (tgt := 26) (pc := 21) C.1 C.2.1 dX4_read_21 (by decide) (fun c6 => ?_) (fun c6 => ?_)
  · have hw := hw.1 c6
    refine lv_iconst (v := 0) (pc := 26) C.1 C.2.1 dX4_read_26 (by decide) ?_
    have hw := hw (fun (v7 : Int32) (z9 : St) => ∀ (H : Heap) (locs : List Loc) (ls : Array Slot), wd D t A s (wX t a z9) H locs → lv_has ls 3 [(0, .ref (a 37)), (1, .ref (a 52)), (2, .int v7)] → W p l e (rmd 7) s m args below meth c H locs 0 0 (QI D t A (wX t a) P below args s) (F0 m 28 ls [])) (by
        intro v7 z9 hw H locs ls h hl
        refine lv_iload_n (pc := 28) C.1 C.2.1 dX4_read_28 rfl (lv_at hl 2 rfl) ?_
        refine lv_bipush (v := 20) (pc := 29) C.1 C.2.1 dX4_read_29 (by decide) ?_
        refine lv_icmp_ge (tgt := 84) (pc := 31) C.1 C.2.1 dX4_read_31 (by decide) (fun c10 => ?_) (fun c10 => ?_)
        · have hw := hw.1 c10
          refine lv_iconst (v := 0) (pc := 84) C.1 C.2.1 dX4_read_84 (by decide) ?_
          exact rt_z (pc := 85) C hr hlk h (Or.inl rfl) hw dX4_read_85
        · have hw := hw.2 c10
          refine lv_aload_n (pc := 34) C.1 C.2.1 dX4_read_34 rfl (lv_at hl 0 rfl) ?_
          refine lv_aload_n (pc := 35) C.1 C.2.1 dX4_read_35 rfl (lv_at hl 1 rfl) ?_
          refine cl_vi (pc := 36) (As := [.ref (a 52)]) (rest := []) C h (m_X4_readRule_52 l D t a z9 _ hw) mw_X4_readRule lm_X4_33 md_X4_readRule rcX_37 ⟨by decide, by decide⟩ ⟨Nat.zero_le _, Nat.zero_le _⟩ hl.1 rfl (Nat.le_of_ble_eq_true rfl) dX4_read_36 (fun r12 z11 H locs hw h => ?_)
          refine lv_if_ne (tgt := 44) (pc := 39) C.1 C.2.1 dX4_read_39 (by decide) (fun c13 => ?_) (fun c13 => ?_)
          · have hw := hw.1 c13
            refine lv_aload_n (pc := 44) C.1 C.2.1 dX4_read_44 rfl (lv_at hl 1 rfl) ?_
            refine lv_dup (pc := 45) C.1 C.2.1 dX4_read_45 rfl ?_
            refine GX_X4_37_52 (pc := 46) C h dX4_read_46 ?_
            refine lv_iconst (v := 1) (pc := 49) C.1 C.2.1 dX4_read_49 (by decide) ?_
            refine lv_iadd (pc := 50) C.1 C.2.1 dX4_read_50 ?_
            refine PX_X4_37_52 (pc := 51) C h dX4_read_51 (fun z14 ez14 H locs h => ?_)
            have hw := hw z14 ez14
            refine lv_aload_n (pc := 54) C.1 C.2.1 dX4_read_54 rfl (lv_at hl 0 rfl) ?_
            refine GX_X4_19_37 (pc := 55) C h dX4_read_55 ?_
            refine lv_aload_n (pc := 58) C.1 C.2.1 dX4_read_58 rfl (lv_at hl 0 rfl) ?_
            refine GX_X4_15_37 (pc := 59) C h dX4_read_59 ?_
            refine lv_icmp_lt (tgt := 67) (pc := 62) C.1 C.2.1 dX4_read_62 (by decide) (fun c15 => ?_) (fun c15 => ?_)
            · have hw := hw.1 c15
              refine lv_aload_n (pc := 67) C.1 C.2.1 dX4_read_67 rfl (lv_at hl 0 rfl) ?_
              refine r_ldcS (pc := 68) (i := 6) C h (by decide) rfl dX4_read_68 ?_
              refine cl_vi (pc := 70) (As := [.ref (t.2.2.2.1 6)]) (rest := []) C h (m_X4_take_s6 l D t a z14 _ hw) mw_X4_take lm_X4_42 md_X4_take rcX_37 ⟨by decide, by decide⟩ ⟨Nat.zero_le _, Nat.zero_le _⟩ hl.1 rfl (Nat.le_of_ble_eq_true rfl) dX4_read_70 (fun r17 z16 H locs hw h => ?_)
              refine lv_if_ne (tgt := 78) (pc := 73) C.1 C.2.1 dX4_read_73 (by decide) (fun c18 => ?_) (fun c18 => ?_)
              · have hw := hw.1 c18
                obtain ⟨x19, ex19⟩ : ∃ y : Int32, y = v7 + (1) := ⟨_, rfl⟩
                have hw := hw x19 ex19
                refine lv_iinc (v := x19) (lv' := [(2, .int x19), (0, .ref (a 37)), (1, .ref (a 52))]) (pc := 78) C.1 C.2.1 dX4_read_78 hl (k := 2) rfl (by rw [ex19]; rfl) (by decide) rfl (fun ls hl => ?_)
                refine lv_goto (tgt := 28) (pc := 81) C.1 C.2.1 dX4_read_81 (by decide) ?_
                exact hw _ _ _ h (lv_sub hl [1, 2, 0] rfl)
              · have hw := hw.2 c18
                refine lv_iconst (v := 0) (pc := 76) C.1 C.2.1 dX4_read_76 (by decide) ?_
                exact rt_z (pc := 77) C hr hlk h (Or.inl rfl) hw dX4_read_77
            · have hw := hw.2 c15
              refine lv_iconst (v := 1) (pc := 65) C.1 C.2.1 dX4_read_65 (by decide) ?_
              exact rt_z (pc := 66) C hr hlk h (Or.inr rfl) hw dX4_read_66
          · have hw := hw.2 c13
            refine lv_iconst (v := 0) (pc := 42) C.1 C.2.1 dX4_read_42 (by decide) ?_
            exact rt_z (pc := 43) C hr hlk h (Or.inl rfl) hw dX4_read_43)
    refine lv_istore_n (lv' := [(2, .int ((0 : Int32))), (0, .ref (a 37)), (1, .ref (a 52))]) (pc := 27) C.1 C.2.1 dX4_read_27 rfl hl (by decide) rfl (fun ls hl => ?_)
    exact hw _ _ _ h (lv_sub hl [1, 2, 0] rfl)
  · have hw := hw.2 c6
    refine lv_iconst (v := 1) (pc := 24) C.1 C.2.1 dX4_read_24 (by decide) ?_
    exact rt_z (pc := 25) C hr hlk h (Or.inr rfl) hw dX4_read_25
