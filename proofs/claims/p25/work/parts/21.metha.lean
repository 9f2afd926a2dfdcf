def wp_X8_isWithin (b1 : Int32) (b2 : Int32) (z : St) (P : Int32 → Prop) : Prop :=
  (((b1 < 0) → P ((0 : Int32))) ∧ (¬ (b1 < 0) → (((b2 < b1) → P ((0 : Int32))) ∧ (¬ (b2 < b1) → P ((1 : Int32))))))
set_option maxHeartbeats 4000000 in
set_option maxRecDepth 100000 in
theorem m_X8_isWithin (l : Launch) (D : va_G) (t : Ty3) (a : Nat → Nat) (b1 : Int32) (b2 : Int32) (z : St) (P : Int32 → Prop) (hw : wp_X8_isWithin b1 b2 z P) : CtI l D t yX8_isWithin cX8_isWithin 2 (some .boolean) 0 (wX t a) (wX t a z) [.int b1, .int b2] (fun rr zz => zz = z ∧ P rr) := by
  refine ctI_of (by decide) (Nat.le_of_ble_eq_true rfl) ?_
  intro p e s m args below meth c A ls C hr hlk h hl
  have hl : lv_has ls 2 [(0, .int b1), (1, .int b2)] := hl
  unfold wp_X8_isWithin at hw
  refine lv_iload_n (pc := 0) C.1 C.2.1 dX8_isWithin_0 rfl (lv_at hl 0 rfl) ?_
  refine lv_if_lt (tgt := 13) (pc := 1) C.1 C.2.1 dX8_isWithin_1 (by decide) (fun c1 => ?_) (fun c1 => ?_)
  · have hw := hw.1 c1
    refine lv_iconst (v := 0) (pc := 13) C.1 C.2.1 dX8_isWithin_13 (by decide) ?_
    exact rt_z (pc := 14) C hr hlk h (Or.inl rfl) ⟨rfl, hw⟩ dX8_isWithin_14
  · have hw := hw.2 c1
    refine lv_iload_n (pc := 4) C.1 C.2.1 dX8_isWithin_4 rfl (lv_at hl 0 rfl) ?_
    refine lv_iload_n (pc := 5) C.1 C.2.1 dX8_isWithin_5 rfl (lv_at hl 1 rfl) ?_
    refine lv_icmp_gt (tgt := 13) (pc := 6) C.1 C.2.1 dX8_isWithin_6 (by decide) (fun c2 => ?_) (fun c2 => ?_)
    · have hw := hw.1 c2
      refine lv_iconst (v := 0) (pc := 13) C.1 C.2.1 dX8_isWithin_13 (by decide) ?_
      exact rt_z (pc := 14) C hr hlk h (Or.inl rfl) ⟨rfl, hw⟩ dX8_isWithin_14
    · have hw := hw.2 c2
      refine lv_iconst (v := 1) (pc := 9) C.1 C.2.1 dX8_isWithin_9 (by decide) ?_
      refine lv_goto (tgt := 14) (pc := 10) C.1 C.2.1 dX8_isWithin_10 (by decide) ?_
      exact rt_z (pc := 14) C hr hlk h (Or.inr rfl) ⟨rfl, hw⟩ dX8_isWithin_14

def wp_X8_isHour (b1 : Int32) (z : St) (P : Int32 → Prop) : Prop :=
  (wp_X8_isWithin b1 ((167 : Int32)) z (fun r2 => ((r2 = 0 ∨ r2 = 1) ∧ P r2)))
set_option maxHeartbeats 4000000 in
set_option maxRecDepth 100000 in
theorem m_X8_isHour (l : Launch) (D : va_G) (t : Ty3) (a : Nat → Nat) (b1 : Int32) (z : St) (P : Int32 → Prop) (hw : wp_X8_isHour b1 z P) : CtI l D t yX8_isHour cX8_isHour 1 (some .boolean) 1 (wX t a) (wX t a z) [.int b1] (fun rr zz => zz = z ∧ P rr) := by
  refine ctI_of (by decide) (Nat.le_of_ble_eq_true rfl) ?_
  intro p e s m args below meth c A ls C hr hlk h hl
  have hl : lv_has ls 1 [(0, .int b1)] := hl
  unfold wp_X8_isHour at hw
  refine lv_iload_n (pc := 0) C.1 C.2.1 dX8_isHour_0 rfl (lv_at hl 0 rfl) ?_
  refine lv_sipush (v := 167) (pc := 1) C.1 C.2.1 dX8_isHour_1 (by decide) ?_
  refine cl_si (pc := 4) (As := [.int b1, .int ((167 : Int32))]) (rest := []) C h (m_X8_isWithin l D t a b1 ((167 : Int32)) z _ hw) mw_X8_isWithin lm_X8_113 md_X8_isWithin ⟨by decide, by decide⟩ ⟨Nat.zero_le _, Nat.zero_le _⟩ hl.1 rfl (Nat.le_of_ble_eq_true rfl) dX8_isHour_4 (fun r2 z1 H locs hw h => ?_)
  rw [hw.1] at h
  have hw := hw.2
  exact rt_z (pc := 7) C hr hlk h hw.1 ⟨rfl, hw.2⟩ dX8_isHour_7

def wp_X8_refuse (b1 : Int32) (z : St) (P : Int32 → St → Prop) : Prop :=
  (∀ z1 : St, z1 = wI z 8 b1 → P b1 z1)
set_option maxHeartbeats 4000000 in
set_option maxRecDepth 100000 in
theorem m_X8_refuse (l : Launch) (D : va_G) (t : Ty3) (a : Nat → Nat) (b1 : Int32) (z : St) (P : Int32 → St → Prop) (hw : wp_X8_refuse b1 z P) : CtI l D t yX8_refuse cX8_refuse 2 (some .int) 0 (wX t a) (wX t a z) [.ref (a 0), .int b1] P := by
  refine ctI_of (by decide) (Nat.le_of_ble_eq_true rfl) ?_
  intro p e s m args below meth c A ls C hr hlk h hl
  have hl : lv_has ls 2 [(0, .ref (a 0)), (1, .int b1)] := hl
  unfold wp_X8_refuse at hw
  refine lv_aload_n (pc := 0) C.1 C.2.1 dX8_refuse_0 rfl (lv_at hl 0 rfl) ?_
  refine lv_iload_n (pc := 1) C.1 C.2.1 dX8_refuse_1 rfl (lv_at hl 1 rfl) ?_
  refine PX_X8_68_0 (pc := 2) C h dX8_refuse_2 (fun z1 ez1 H locs h => ?_)
  have hw := hw z1 ez1
  refine lv_iload_n (pc := 5) C.1 C.2.1 dX8_refuse_5 rfl (lv_at hl 1 rfl) ?_
  exact rt_i (pc := 6) C hr hlk h hw dX8_refuse_6

def wp_X8_isPrice (b1 : Int32) (z : St) (P : Int32 → Prop) : Prop :=
  (((b1 < ((-1000 : Int32))) → P ((0 : Int32))) ∧ (¬ (b1 < ((-1000 : Int32))) → (((((10000 : Int32)) < b1) → P ((0 : Int32))) ∧ (¬ (((10000 : Int32)) < b1) → P ((1 : Int32))))))
set_option maxHeartbeats 4000000 in
set_option maxRecDepth 100000 in
theorem m_X8_isPrice (l : Launch) (D : va_G) (t : Ty3) (a : Nat → Nat) (b1 : Int32) (z : St) (P : Int32 → Prop) (hw : wp_X8_isPrice b1 z P) : CtI l D t yX8_isPrice cX8_isPrice 1 (some .boolean) 0 (wX t a) (wX t a z) [.int b1] (fun rr zz => zz = z ∧ P rr) := by
  refine ctI_of (by decide) (Nat.le_of_ble_eq_true rfl) ?_
  intro p e s m args below meth c A ls C hr hlk h hl
  have hl : lv_has ls 1 [(0, .int b1)] := hl
  unfold wp_X8_isPrice at hw
  refine lv_iload_n (pc := 0) C.1 C.2.1 dX8_isPrice_0 rfl (lv_at hl 0 rfl) ?_
  refine lv_sipush (v := -1000) (pc := 1) C.1 C.2.1 dX8_isPrice_1 (by decide) ?_
  refine lv_icmp_lt (tgt := 18) (pc := 4) C.1 C.2.1 dX8_isPrice_4 (by decide) (fun c1 => ?_) (fun c1 => ?_)
  · have hw := hw.1 c1
    refine lv_iconst (v := 0) (pc := 18) C.1 C.2.1 dX8_isPrice_18 (by decide) ?_
    exact rt_z (pc := 19) C hr hlk h (Or.inl rfl) ⟨rfl, hw⟩ dX8_isPrice_19
  · have hw := hw.2 c1
    refine lv_iload_n (pc := 7) C.1 C.2.1 dX8_isPrice_7 rfl (lv_at hl 0 rfl) ?_
    refine lv_sipush (v := 10000) (pc := 8) C.1 C.2.1 dX8_isPrice_8 (by decide) ?_
    refine lv_icmp_gt (tgt := 18) (pc := 11) C.1 C.2.1 dX8_isPrice_11 (by decide) (fun c2 => ?_) (fun c2 => ?_)
    · have hw := hw.1 c2
      refine lv_iconst (v := 0) (pc := 18) C.1 C.2.1 dX8_isPrice_18 (by decide) ?_
      exact rt_z (pc := 19) C hr hlk h (Or.inl rfl) ⟨rfl, hw⟩ dX8_isPrice_19
    · have hw := hw.2 c2
      refine lv_iconst (v := 1) (pc := 14) C.1 C.2.1 dX8_isPrice_14 (by decide) ?_
      refine lv_goto (tgt := 19) (pc := 15) C.1 C.2.1 dX8_isPrice_15 (by decide) ?_
      exact rt_z (pc := 19) C hr hlk h (Or.inr rfl) ⟨rfl, hw⟩ dX8_isPrice_19

def wp_X8_isKnown (b1 : Int32) (z : St) (P : Int32 → Prop) : Prop :=
  (wp_X8_isWithin b1 ((1000 : Int32)) z (fun r2 => ((r2 = 0 ∨ r2 = 1) ∧ P r2)))
set_option maxHeartbeats 4000000 in
set_option maxRecDepth 100000 in
theorem m_X8_isKnown (l : Launch) (D : va_G) (t : Ty3) (a : Nat → Nat) (b1 : Int32) (z : St) (P : Int32 → Prop) (hw : wp_X8_isKnown b1 z P) : CtI l D t yX8_isKnown cX8_isKnown 1 (some .boolean) 1 (wX t a) (wX t a z) [.int b1] (fun rr zz => zz = z ∧ P rr) := by
  refine ctI_of (by decide) (Nat.le_of_ble_eq_true rfl) ?_
  intro p e s m args below meth c A ls C hr hlk h hl
  have hl : lv_has ls 1 [(0, .int b1)] := hl
  unfold wp_X8_isKnown at hw
  refine lv_iload_n (pc := 0) C.1 C.2.1 dX8_isKnown_0 rfl (lv_at hl 0 rfl) ?_
  refine lv_sipush (v := 1000) (pc := 1) C.1 C.2.1 dX8_isKnown_1 (by decide) ?_
  refine cl_si (pc := 4) (As := [.int b1, .int ((1000 : Int32))]) (rest := []) C h (m_X8_isWithin l D t a b1 ((1000 : Int32)) z _ hw) mw_X8_isWithin lm_X8_113 md_X8_isWithin ⟨by decide, by decide⟩ ⟨Nat.zero_le _, Nat.zero_le _⟩ hl.1 rfl (Nat.le_of_ble_eq_true rfl) dX8_isKnown_4 (fun r2 z1 H locs hw h => ?_)
  rw [hw.1] at h
  have hw := hw.2
  exact rt_z (pc := 7) C hr hlk h hw.1 ⟨rfl, hw.2⟩ dX8_isKnown_7

def wp_X3_tell (b1 : Int32) (b2 : Int32) (b3 : Int32) (z : St) (P : St → Prop) : Prop :=
  (vp_in (gI z 105) 400 ∧ (∀ z1 : St, z1 = wR z 2 (upd (gF z 2) (gI z 105).toNatClampNeg b1) → (vp_in (gI z1 105) 400 ∧ (∀ z2 : St, z2 = wR z1 3 (upd (gF z1 3) (gI z1 105).toNatClampNeg b2) → (vp_in (gI z2 105) 400 ∧ (∀ z3 : St, z3 = wR z2 4 (upd (gF z2 4) (gI z2 105).toNatClampNeg b3) → (∀ z4 : St, z4 = wI z3 105 ((gI z3 105) + ((1 : Int32))) → P z4)))))))
set_option maxHeartbeats 4000000 in
set_option maxRecDepth 100000 in
theorem m_X3_tell (l : Launch) (D : va_G) (t : Ty3) (a : Nat → Nat) (b1 : Int32) (b2 : Int32) (b3 : Int32) (z : St) (P : St → Prop) (hw : wp_X3_tell b1 b2 b3 z P) : CtV l D t yX3_tell cX3_tell 4 none 0 (wX t a) (wX t a z) [.ref (a 1), .int b1, .int b2, .int b3] P := by
  refine ctV_of (by decide) (Nat.le_of_ble_eq_true rfl) ?_
  intro p e s m args below meth c A ls C hr hlk h hl
  have hl : lv_has ls 4 [(0, .ref (a 1)), (1, .int b1), (2, .int b2), (3, .int b3)] := hl
  unfold wp_X3_tell at hw
  refine lv_aload_n (pc := 0) C.1 C.2.1 dX3_tell_0 rfl (lv_at hl 0 rfl) ?_
  refine GX_X3_9_1 (pc := 1) C h dX3_tell_1 ?_
  refine lv_aload_n (pc := 4) C.1 C.2.1 dX3_tell_4 rfl (lv_at hl 0 rfl) ?_
  refine GX_X3_27_1 (pc := 5) C h dX3_tell_5 ?_
  refine lv_iload_n (pc := 8) C.1 C.2.1 dX3_tell_8 rfl (lv_at hl 1 rfl) ?_
  refine stX_2 (pc := 9) C h hw.1 dX3_tell_9 (fun z1 ez1 H locs h => ?_)
  have hw := hw.2 z1 ez1
  refine lv_aload_n (pc := 10) C.1 C.2.1 dX3_tell_10 rfl (lv_at hl 0 rfl) ?_
  refine GX_X3_15_1 (pc := 11) C h dX3_tell_11 ?_
  refine lv_aload_n (pc := 14) C.1 C.2.1 dX3_tell_14 rfl (lv_at hl 0 rfl) ?_
  refine GX_X3_27_1 (pc := 15) C h dX3_tell_15 ?_
  refine lv_iload_n (pc := 18) C.1 C.2.1 dX3_tell_18 rfl (lv_at hl 2 rfl) ?_
  refine stX_3 (pc := 19) C h hw.1 dX3_tell_19 (fun z2 ez2 H locs h => ?_)
  have hw := hw.2 z2 ez2
  refine lv_aload_n (pc := 20) C.1 C.2.1 dX3_tell_20 rfl (lv_at hl 0 rfl) ?_
  refine GX_X3_18_1 (pc := 21) C h dX3_tell_21 ?_
  refine lv_aload_n (pc := 24) C.1 C.2.1 dX3_tell_24 rfl (lv_at hl 0 rfl) ?_
  refine GX_X3_27_1 (pc := 25) C h dX3_tell_25 ?_
  refine lv_iload_n (pc := 28) C.1 C.2.1 dX3_tell_28 rfl (lv_at hl 3 rfl) ?_
  refine stX_4 (pc := 29) C h hw.1 dX3_tell_29 (fun z3 ez3 H locs h => ?_)
  have hw := hw.2 z3 ez3
  refine lv_aload_n (pc := 30) C.1 C.2.1 dX3_tell_30 rfl (lv_at hl 0 rfl) ?_
  refine lv_dup (pc := 31) C.1 C.2.1 dX3_tell_31 rfl ?_
  refine GX_X3_27_1 (pc := 32) C h dX3_tell_32 ?_
  refine lv_iconst (v := 1) (pc := 35) C.1 C.2.1 dX3_tell_35 (by decide) ?_
  refine lv_iadd (pc := 36) C.1 C.2.1 dX3_tell_36 ?_
  refine PX_X3_27_1 (pc := 37) C h dX3_tell_37 (fun z4 ez4 H locs h => ?_)
  have hw := hw z4 ez4
  exact rt_v (pc := 40) C hr hlk h hw dX3_tell_40

def wp_X8_accept (b1 : Int32) (z : St) (P : Int32 → St → Prop) : Prop :=
  (∀ z1 : St, z1 = wI z 8 ((0 : Int32)) → P b1 z1)
set_option maxHeartbeats 4000000 in
set_option maxRecDepth 100000 in
theorem m_X8_accept (l : Launch) (D : va_G) (t : Ty3) (a : Nat → Nat) (b1 : Int32) (z : St) (P : Int32 → St → Prop) (hw : wp_X8_accept b1 z P) : CtI l D t yX8_accept cX8_accept 2 (some .int) 0 (wX t a) (wX t a z) [.ref (a 0), .int b1] P := by
  refine ctI_of (by decide) (Nat.le_of_ble_eq_true rfl) ?_
  intro p e s m args below meth c A ls C hr hlk h hl
  have hl : lv_has ls 2 [(0, .ref (a 0)), (1, .int b1)] := hl
  unfold wp_X8_accept at hw
  refine lv_aload_n (pc := 0) C.1 C.2.1 dX8_accept_0 rfl (lv_at hl 0 rfl) ?_
  refine lv_iconst (v := 0) (pc := 1) C.1 C.2.1 dX8_accept_1 (by decide) ?_
  refine PX_X8_68_0 (pc := 2) C h dX8_accept_2 (fun z1 ez1 H locs h => ?_)
  have hw := hw z1 ez1
  refine lv_iload_n (pc := 5) C.1 C.2.1 dX8_accept_5 rfl (lv_at hl 1 rfl) ?_
  exact rt_i (pc := 6) C hr hlk h hw dX8_accept_6

def wp_X8_price (b1 : Int32) (b2 : Int32) (b3 : Int32) (z : St) (P : Int32 → St → Prop) : Prop :=
  (wp_X8_isHour b1 z (fun r2 => (∀ K3 : Prop, ((wp_X8_refuse ((-1 : Int32)) z (fun r5 z4 => P r5 z4)) → K3) → (((r2 = 0) → K3) ∧ (¬ (r2 = 0) → (wp_X8_isPrice b2 z (fun r8 => (((r8 = 0) → K3) ∧ (¬ (r8 = 0) → (wp_X8_isKnown b3 z (fun r11 => (((¬ r11 = 0) → ((((gI z 105) < ((400 : Int32))) → (wp_X3_tell b1 b2 b3 z (fun z14 => (∀ K16 : St → Prop, (∀ (z17 : St), (wp_X8_accept (gI z17 105) z17 (fun r19 z18 => P r19 z18)) → K16 z17) → ((((gI z14 2104) < b3) → K16 z14) ∧ (¬ ((gI z14 2104) < b3) → (vp_in b1 168 ∧ (∀ z21 : St, z21 = wR z14 5 (upd (gF z14 5) b1.toNatClampNeg b2) → K16 z21)))))))) ∧ (¬ ((gI z 105) < ((400 : Int32))) → (wp_X8_refuse ((-5 : Int32)) z (fun r23 z22 => P r23 z22))))) ∧ (r11 = 0 → K3)))))))))))))
set_option maxHeartbeats 4000000 in
set_option maxRecDepth 100000 in
theorem m_X8_price (l : Launch) (D : va_G) (t : Ty3) (a : Nat → Nat) (b1 : Int32) (b2 : Int32) (b3 : Int32) (z : St) (P : Int32 → St → Prop) (hw : wp_X8_price b1 b2 b3 z P) : CtI l D t yX8_price cX8_price 4 (some .int) 2 (wX t a) (wX t a z) [.ref (a 0), .int b1, .int b2, .int b3] P := by
  refine ctI_of (by decide) (Nat.le_of_ble_eq_true rfl) ?_
  intro p e s m args below meth c A ls C hr hlk h hl
  have hl : lv_has ls 4 [(0, .ref (a 0)), (1, .int b1), (2, .int b2), (3, .int b3)] := hl
  unfold wp_X8_price at hw
  refine lv_iload_n (pc := 0) C.1 C.2.1 dX8_price_0 rfl (lv_at hl 1 rfl) ?_
  refine cl_si (pc := 1) (As := [.int b1]) (rest := []) C h (m_X8_isHour l D t a b1 z _ hw) mw_X8_isHour lm_X8_71 md_X8_isHour ⟨by decide, by decide⟩ ⟨Nat.zero_le _, Nat.zero_le _⟩ hl.1 rfl (Nat.le_of_ble_eq_true rfl) dX8_price_1 (fun r2 z1 H locs hw h => ?_)
  rw [hw.1] at h
  have hw := hw.2
  have hw := hw (∀ (H : Heap) (locs : List Loc) (ls : Array Slot), wd D t A s (wX t a z) H locs → lv_has ls 4 [(0, .ref (a 0))] → W p l e (rmd 2) s m args below meth c H locs 0 0 (QI D t A (wX t a) P below args s) (F0 m 21 ls [])) (by
      intro hw H locs ls h hl
      refine lv_aload_n (pc := 21) C.1 C.2.1 dX8_price_21 rfl (lv_at hl 0 rfl) ?_
      refine lv_iconst (v := -1) (pc := 22) C.1 C.2.1 dX8_price_22 (by decide) ?_
      refine cl_vi (pc := 23) (As := [.int ((-1 : Int32))]) (rest := []) C h (m_X8_refuse l D t a ((-1 : Int32)) z _ hw) mw_X8_refuse lm_X8_81 md_X8_refuse rcX_0 ⟨by decide, by decide⟩ ⟨Nat.zero_le _, Nat.zero_le _⟩ hl.1 rfl (Nat.le_of_ble_eq_true rfl) dX8_price_23 (fun r5 z4 H locs hw h => ?_)
      exact rt_i (pc := 26) C hr hlk h hw dX8_price_26)
  refine lv_if_eq (tgt := 21) (pc := 4) C.1 C.2.1 dX8_price_4 (by decide) (fun c6 => ?_) (fun c6 => ?_)
  · have hw := hw.1 c6
    exact hw _ _ _ h (lv_sub hl [0] rfl)
  · have hw := hw.2 c6
    refine lv_iload_n (pc := 7) C.1 C.2.1 dX8_price_7 rfl (lv_at hl 2 rfl) ?_
    refine cl_si (pc := 8) (As := [.int b2]) (rest := []) C h (m_X8_isPrice l D t a b2 z _ hw) mw_X8_isPrice lm_X8_75 md_X8_isPrice ⟨by decide, by decide⟩ ⟨Nat.zero_le _, Nat.zero_le _⟩ hl.1 rfl (Nat.le_of_ble_eq_true rfl) dX8_price_8 (fun r8 z7 H locs hw h => ?_)
    rw [hw.1] at h
    have hw := hw.2
    refine lv_if_eq (tgt := 21) (pc := 11) C.1 C.2.1 dX8_price_11 (by decide) (fun c9 => ?_) (fun c9 => ?_)
    · have hw := hw.1 c9
      exact hw _ _ _ h (lv_sub hl [0] rfl)
    · have hw := hw.2 c9
      refine lv_iload_n (pc := 14) C.1 C.2.1 dX8_price_14 rfl (lv_at hl 3 rfl) ?_
      refine cl_si (pc := 15) (As := [.int b3]) (rest := []) C h (m_X8_isKnown l D t a b3 z _ hw) mw_X8_isKnown lm_X8_78 md_X8_isKnown ⟨by decide, by decide⟩ ⟨Nat.zero_le _, Nat.zero_le _⟩ hl.1 rfl (Nat.le_of_ble_eq_true rfl) dX8_price_15 (fun r11 z10 H locs hw h => ?_)
      rw [hw.1] at h
      have hw := hw.2
      refine lv_if_ne (tgt := 27) (pc := 18) C.1 C.2.1 dX8_price_18 (by decide) (fun c12 => ?_) (fun c12 => ?_)
      · have hw := hw.1 c12
        refine lv_aload_n (pc := 27) C.1 C.2.1 dX8_price_27 rfl (lv_at hl 0 rfl) ?_
        refine GX_X8_10_0 (pc := 28) C h dX8_price_28 ?_
        refine GX_X8_85_1 (pc := 31) C h dX8_price_31 ?_
        refine lv_sipush (v := 400) (pc := 34) C.1 C.2.1 dX8_price_34 (by decide) ?_
        refine lv_icmp_lt (tgt := 47) (pc := 37) C.1 C.2.1 dX8_price_37 (by decide) (fun c13 => ?_) (fun c13 => ?_)
        · have hw := hw.1 c13
          refine lv_aload_n (pc := 47) C.1 C.2.1 dX8_price_47 rfl (lv_at hl 0 rfl) ?_
          refine GX_X8_10_0 (pc := 48) C h dX8_price_48 ?_
          refine lv_iload_n (pc := 51) C.1 C.2.1 dX8_price_51 rfl (lv_at hl 1 rfl) ?_
          refine lv_iload_n (pc := 52) C.1 C.2.1 dX8_price_52 rfl (lv_at hl 2 rfl) ?_
          refine lv_iload_n (pc := 53) C.1 C.2.1 dX8_price_53 rfl (lv_at hl 3 rfl) ?_
          refine cl_vv (pc := 54) (As := [.int b1, .int b2, .int b3]) (rest := []) C h (m_X3_tell l D t a b1 b2 b3 z _ hw) mw_X3_tell lm_X8_88 md_X3_tell rcX_1 ⟨by decide, by decide⟩ ⟨Nat.zero_le _, Nat.zero_le _⟩ hl.1 rfl (Nat.le_of_ble_eq_true rfl) dX8_price_54 (fun z14 H locs hw h => ?_)
          refine lv_iload_n (pc := 57) C.1 C.2.1 dX8_price_57 rfl (lv_at hl 3 rfl) ?_
          refine lv_aload_n (pc := 58) C.1 C.2.1 dX8_price_58 rfl (lv_at hl 0 rfl) ?_
          refine GX_X8_37_0 (pc := 59) C h dX8_price_59 ?_
          refine GX_X8_92_21 (pc := 62) C h dX8_price_62 ?_
          have hw := hw (fun (z17 : St) => ∀ (H : Heap) (locs : List Loc) (ls : Array Slot), wd D t A s (wX t a z17) H locs → lv_has ls 4 [(0, .ref (a 0))] → W p l e (rmd 2) s m args below meth c H locs 0 0 (QI D t A (wX t a) P below args s) (F0 m 78 ls [])) (by
              intro z17 hw H locs ls h hl
              refine lv_aload_n (pc := 78) C.1 C.2.1 dX8_price_78 rfl (lv_at hl 0 rfl) ?_
              refine lv_aload_n (pc := 79) C.1 C.2.1 dX8_price_79 rfl (lv_at hl 0 rfl) ?_
              refine GX_X8_10_0 (pc := 80) C h dX8_price_80 ?_
              refine GX_X8_85_1 (pc := 83) C h dX8_price_83 ?_
              refine cl_vi (pc := 86) (As := [.int (gI z17 105)]) (rest := []) C h (m_X8_accept l D t a (gI z17 105) z17 _ hw) mw_X8_accept lm_X8_99 md_X8_accept rcX_0 ⟨by decide, by decide⟩ ⟨Nat.zero_le _, Nat.zero_le _⟩ hl.1 rfl (Nat.le_of_ble_eq_true rfl) dX8_price_86 (fun r19 z18 H locs hw h => ?_)
              exact rt_i (pc := 89) C hr hlk h hw dX8_price_89)
          refine lv_icmp_gt (tgt := 78) (pc := 65) C.1 C.2.1 dX8_price_65 (by decide) (fun c20 => ?_) (fun c20 => ?_)
          · have hw := hw.1 c20
            exact hw _ _ _ h (lv_sub hl [0] rfl)
          · have hw := hw.2 c20
            refine lv_aload_n (pc := 68) C.1 C.2.1 dX8_price_68 rfl (lv_at hl 0 rfl) ?_
            refine GX_X8_10_0 (pc := 69) C h dX8_price_69 ?_
            refine GX_X8_95_1 (pc := 72) C h dX8_price_72 ?_
            refine lv_iload_n (pc := 75) C.1 C.2.1 dX8_price_75 rfl (lv_at hl 1 rfl) ?_
            refine lv_iload_n (pc := 76) C.1 C.2.1 dX8_price_76 rfl (lv_at hl 2 rfl) ?_
            refine stX_5 (pc := 77) C h hw.1 dX8_price_77 (fun z21 ez21 H locs h => ?_)
            have hw := hw.2 z21 ez21
            exact hw _ _ _ h (lv_sub hl [0] rfl)
        · have hw := hw.2 c13
          refine lv_aload_n (pc := 40) C.1 C.2.1 dX8_price_40 rfl (lv_at hl 0 rfl) ?_
          refine lv_bipush (v := -5) (pc := 41) C.1 C.2.1 dX8_price_41 (by decide) ?_
          refine cl_vi (pc := 43) (As := [.int ((-5 : Int32))]) (rest := []) C h (m_X8_refuse l D t a ((-5 : Int32)) z _ hw) mw_X8_refuse lm_X8_81 md_X8_refuse rcX_0 ⟨by decide, by decide⟩ ⟨Nat.zero_le _, Nat.zero_le _⟩ hl.1 rfl (Nat.le_of_ble_eq_true rfl) dX8_price_43 (fun r23 z22 H locs hw h => ?_)
          exact rt_i (pc := 46) C hr hlk h hw dX8_price_46
      · have hw := hw.2 c12
        exact hw _ _ _ h (lv_sub hl [0] rfl)

def wp_J7_fill_53178_5 (b2 : Int32) (z : St) (P : St → Prop) : Prop :=
  (∀ K3 : Int32 → Int32 → St → Prop, (∀ (v1 : Int32) (v2 : Int32) (z4 : St), (((v2 ≤ v1) → P z4) ∧ (¬ (v2 ≤ v1) → (vp_in v1 168 ∧ (∀ z6 : St, z6 = wR z4 5 (upd (gF z4 5) v1.toNatClampNeg b2) → (∀ x7 : Int32, x7 = v1 + (1) → K3 x7 v2 z6))))) → K3 v1 v2 z4) → K3 ((0 : Int32)) ((168 : Int32)) z)
set_option maxHeartbeats 4000000 in
set_option maxRecDepth 100000 in
theorem m_J7_fill_53178_5 (l : Launch) (D : va_G) (t : Ty3) (a : Nat → Nat) (b2 : Int32) (z : St) (P : St → Prop) (hw : wp_J7_fill_53178_5 b2 z P) : CtV l D t yJ7_fill_53178 cJ7_fill_53178 4 none 0 (wX t a) (wX t a z) [.ref (a 5), .int b2] P := by
  refine ctV_of (by decide) (Nat.le_of_ble_eq_true rfl) ?_
  intro p e s m args below meth c A ls C hr hlk h hl
  have hl : lv_has ls 4 [(0, .ref (a 5)), (1, .int b2)] := hl
  unfold wp_J7_fill_53178_5 at hw
  refine lv_iconst (v := 0) (pc := 0) C.1 C.2.1 dJ7_fill_53178_0 (by decide) ?_
  refine lv_istore_n (lv' := [(2, .int ((0 : Int32))), (0, .ref (a 5)), (1, .int b2)]) (pc := 1) C.1 C.2.1 dJ7_fill_53178_1 rfl hl (by decide) rfl (fun ls hl => ?_)
  refine lv_aload_n (pc := 2) C.1 C.2.1 dJ7_fill_53178_2 rfl (lv_at hl 1 rfl) ?_
  refine r_len (pc := 3) (n := 168) (q := 5) (v := 168) C h rfl (by decide) dJ7_fill_53178_3 ?_
  have hw := hw (fun (v1 : Int32) (v2 : Int32) (z4 : St) => ∀ (H : Heap) (locs : List Loc) (ls : Array Slot), wd D t A s (wX t a z4) H locs → lv_has ls 4 [(0, .ref (a 5)), (1, .int b2), (2, .int v1), (3, .int v2)] → W p l e (rmd 0) s m args below meth c H locs 0 0 (QV D t A (wX t a) P below args s) (F0 m 5 ls [])) (by
      intro v1 v2 z4 hw H locs ls h hl
      refine lv_iload_n (pc := 5) C.1 C.2.1 dJ7_fill_53178_5 rfl (lv_at hl 2 rfl) ?_
      refine lv_iload_n (pc := 6) C.1 C.2.1 dJ7_fill_53178_6 rfl (lv_at hl 3 rfl) ?_
      refine lv_icmp_ge (tgt := 20) (pc := 7) C.1 C.2.1 dJ7_fill_53178_7 (by decide) (fun c5 => ?_) (fun c5 => ?_)
      · have hw := hw.1 c5
        exact rt_v (pc := 20) C hr hlk h hw dJ7_fill_53178_20
      · have hw := hw.2 c5
        refine lv_aload_n (pc := 10) C.1 C.2.1 dJ7_fill_53178_10 rfl (lv_at hl 0 rfl) ?_
        refine lv_iload_n (pc := 11) C.1 C.2.1 dJ7_fill_53178_11 rfl (lv_at hl 2 rfl) ?_
        refine lv_iload_n (pc := 12) C.1 C.2.1 dJ7_fill_53178_12 rfl (lv_at hl 1 rfl) ?_
        refine stX_5 (pc := 13) C h hw.1 dJ7_fill_53178_13 (fun z6 ez6 H locs h => ?_)
        have hw := hw.2 z6 ez6
        obtain ⟨x7, ex7⟩ : ∃ y : Int32, y = v1 + (1) := ⟨_, rfl⟩
        have hw := hw x7 ex7
        refine lv_iinc (v := x7) (lv' := [(2, .int x7), (0, .ref (a 5)), (1, .int b2), (3, .int v2)]) (pc := 14) C.1 C.2.1 dJ7_fill_53178_14 hl (k := 2) rfl (by rw [ex7]; rfl) (by decide) rfl (fun ls hl => ?_)
        refine lv_goto (tgt := 5) (pc := 17) C.1 C.2.1 dJ7_fill_53178_17 (by decide) ?_
        exact hw _ _ _ h (lv_sub hl [1, 2, 0, 3] rfl))
  refine lv_istore_n (lv' := [(3, .int ((168 : Int32))), (2, .int ((0 : Int32))), (0, .ref (a 5)), (1, .int b2)]) (pc := 4) C.1 C.2.1 dJ7_fill_53178_4 rfl hl (by decide) rfl (fun ls hl => ?_)
  exact hw _ _ _ h (lv_sub hl [2, 3, 1, 0] rfl)

def wp_X3_lay_5 (b2 : Int32) (z : St) (P : St → Prop) : Prop :=
  (wp_J7_fill_53178_5 (gI z 106) z (fun z1 => (∀ K4 : Int32 → St → Prop, (∀ (v3 : Int32) (z5 : St), ((((gI z5 105) ≤ v3) → P z5) ∧ (¬ ((gI z5 105) ≤ v3) → (vp_in v3 400 ∧ (∀ K7 : St → Prop, (∀ (z8 : St), (∀ x9 : Int32, x9 = v3 + (1) → K4 x9 z8) → K7 z8) → (((b2 < (gF z5 4 v3.toNatClampNeg)) → K7 z5) ∧ (¬ (b2 < (gF z5 4 v3.toNatClampNeg)) → (vp_in v3 400 ∧ (vp_in v3 400 ∧ (vp_in (gF z5 2 v3.toNatClampNeg) 168 ∧ (∀ z11 : St, z11 = wR z5 5 (upd (gF z5 5) (gF z5 2 v3.toNatClampNeg).toNatClampNeg (gF z5 3 v3.toNatClampNeg)) → K7 z11)))))))))) → K4 v3 z5) → K4 ((0 : Int32)) z1)))
set_option maxHeartbeats 4000000 in
set_option maxRecDepth 100000 in
theorem m_X3_lay_5 (l : Launch) (D : va_G) (t : Ty3) (a : Nat → Nat) (b2 : Int32) (z : St) (P : St → Prop) (hw : wp_X3_lay_5 b2 z P) : CtV l D t yX3_lay cX3_lay 4 none 1 (wX t a) (wX t a z) [.ref (a 1), .ref (a 5), .int b2] P := by
  refine ctV_of (by decide) (Nat.le_of_ble_eq_true rfl) ?_
  intro p e s m args below meth c A ls C hr hlk h hl
  have hl : lv_has ls 4 [(0, .ref (a 1)), (1, .ref (a 5)), (2, .int b2)] := hl
  unfold wp_X3_lay_5 at hw
  refine lv_aload_n (pc := 0) C.1 C.2.1 dX3_lay_0 rfl (lv_at hl 1 rfl) ?_
  refine lv_aload_n (pc := 1) C.1 C.2.1 dX3_lay_1 rfl (lv_at hl 0 rfl) ?_
  refine GX_X3_31_1 (pc := 2) C h dX3_lay_2 ?_
  refine cl_sv (pc := 5) (As := [.ref (a 5), .int (gI z 106)]) (rest := []) C h (m_J7_fill_53178_5 l D t a (gI z 106) z _ hw) mw_J7_fill_53178 lm_X3_34 md_J7_fill_53178 ⟨by decide, by decide⟩ ⟨Nat.zero_le _, Nat.zero_le _⟩ hl.1 rfl (Nat.le_of_ble_eq_true rfl) dX3_lay_5 (fun z1 H locs hw h => ?_)
  refine lv_iconst (v := 0) (pc := 8) C.1 C.2.1 dX3_lay_8 (by decide) ?_
  have hw := hw (fun (v3 : Int32) (z5 : St) => ∀ (H : Heap) (locs : List Loc) (ls : Array Slot), wd D t A s (wX t a z5) H locs → lv_has ls 4 [(0, .ref (a 1)), (1, .ref (a 5)), (2, .int b2), (3, .int v3)] → W p l e (rmd 1) s m args below meth c H locs 0 0 (QV D t A (wX t a) P below args s) (F0 m 10 ls [])) (by
      intro v3 z5 hw H locs ls h hl
      refine lv_iload_n (pc := 10) C.1 C.2.1 dX3_lay_10 rfl (lv_at hl 3 rfl) ?_
      refine lv_aload_n (pc := 11) C.1 C.2.1 dX3_lay_11 rfl (lv_at hl 0 rfl) ?_
      refine GX_X3_27_1 (pc := 12) C h dX3_lay_12 ?_
      refine lv_icmp_ge (tgt := 48) (pc := 15) C.1 C.2.1 dX3_lay_15 (by decide) (fun c6 => ?_) (fun c6 => ?_)
      · have hw := hw.1 c6
        exact rt_v (pc := 48) C hr hlk h hw dX3_lay_48
      · have hw := hw.2 c6
        refine lv_aload_n (pc := 18) C.1 C.2.1 dX3_lay_18 rfl (lv_at hl 0 rfl) ?_
        refine GX_X3_18_1 (pc := 19) C h dX3_lay_19 ?_
        refine lv_iload_n (pc := 22) C.1 C.2.1 dX3_lay_22 rfl (lv_at hl 3 rfl) ?_
        refine ldX_4 (pc := 23) C h hw.1 dX3_lay_23 ?_
        have hw := hw.2
        refine lv_iload_n (pc := 24) C.1 C.2.1 dX3_lay_24 rfl (lv_at hl 2 rfl) ?_
        have hw := hw (fun (z8 : St) => ∀ (H : Heap) (locs : List Loc) (ls : Array Slot), wd D t A s (wX t a z8) H locs → lv_has ls 4 [(0, .ref (a 1)), (1, .ref (a 5)), (2, .int b2), (3, .int v3)] → W p l e (rmd 1) s m args below meth c H locs 0 0 (QV D t A (wX t a) P below args s) (F0 m 42 ls [])) (by
            intro z8 hw H locs ls h hl
            obtain ⟨x9, ex9⟩ : ∃ y : Int32, y = v3 + (1) := ⟨_, rfl⟩
            have hw := hw x9 ex9
            refine lv_iinc (v := x9) (lv' := [(3, .int x9), (0, .ref (a 1)), (1, .ref (a 5)), (2, .int b2)]) (pc := 42) C.1 C.2.1 dX3_lay_42 hl (k := 3) rfl (by rw [ex9]; rfl) (by decide) rfl (fun ls hl => ?_)
            refine lv_goto (tgt := 10) (pc := 45) C.1 C.2.1 dX3_lay_45 (by decide) ?_
            exact hw _ _ _ h (lv_sub hl [1, 2, 3, 0] rfl))
        refine lv_icmp_gt (tgt := 42) (pc := 25) C.1 C.2.1 dX3_lay_25 (by decide) (fun c10 => ?_) (fun c10 => ?_)
        · have hw := hw.1 c10
          exact hw _ _ _ h (lv_sub hl [0, 1, 2, 3] rfl)
        · have hw := hw.2 c10
          refine lv_aload_n (pc := 28) C.1 C.2.1 dX3_lay_28 rfl (lv_at hl 1 rfl) ?_
          refine lv_aload_n (pc := 29) C.1 C.2.1 dX3_lay_29 rfl (lv_at hl 0 rfl) ?_
          refine GX_X3_9_1 (pc := 30) C h dX3_lay_30 ?_
          refine lv_iload_n (pc := 33) C.1 C.2.1 dX3_lay_33 rfl (lv_at hl 3 rfl) ?_
          refine ldX_2 (pc := 34) C h hw.1 dX3_lay_34 ?_
          have hw := hw.2
          refine lv_aload_n (pc := 35) C.1 C.2.1 dX3_lay_35 rfl (lv_at hl 0 rfl) ?_
          refine GX_X3_15_1 (pc := 36) C h dX3_lay_36 ?_
          refine lv_iload_n (pc := 39) C.1 C.2.1 dX3_lay_39 rfl (lv_at hl 3 rfl) ?_
          refine ldX_3 (pc := 40) C h hw.1 dX3_lay_40 ?_
          have hw := hw.2
          refine stX_5 (pc := 41) C h hw.1 dX3_lay_41 (fun z11 ez11 H locs h => ?_)
          have hw := hw.2 z11 ez11
          exact hw _ _ _ h (lv_sub hl [0, 1, 2, 3] rfl))
  refine lv_istore_n (lv' := [(3, .int ((0 : Int32))), (0, .ref (a 1)), (1, .ref (a 5)), (2, .int b2)]) (pc := 9) C.1 C.2.1 dX3_lay_9 rfl hl (by decide) rfl (fun ls hl => ?_)
  exact hw _ _ _ h (lv_sub hl [1, 2, 3, 0] rfl)

def wp_X8_plain (b1 : Int32) (z : St) (P : Int32 → St → Prop) : Prop :=
  (wp_X8_isPrice b1 z (fun r2 => (((¬ r2 = 0) → (∀ x4 : Int32, x4 = gI z 106 → (∀ z5 : St, z5 = wI z 106 b1 → (wp_X3_lay_5 (gI z5 2104) z5 (fun z6 => (wp_X8_accept x4 z6 (fun r9 z8 => P r9 z8))))))) ∧ (r2 = 0 → (wp_X8_refuse ((-1 : Int32)) z (fun r11 z10 => P ((-5000 : Int32)) z10))))))
set_option maxHeartbeats 4000000 in
set_option maxRecDepth 100000 in
theorem m_X8_plain (l : Launch) (D : va_G) (t : Ty3) (a : Nat → Nat) (b1 : Int32) (z : St) (P : Int32 → St → Prop) (hw : wp_X8_plain b1 z P) : CtI l D t yX8_plain cX8_plain 3 (some .int) 2 (wX t a) (wX t a z) [.ref (a 0), .int b1] P := by
  refine ctI_of (by decide) (Nat.le_of_ble_eq_true rfl) ?_
  intro p e s m args below meth c A ls C hr hlk h hl
  have hl : lv_has ls 3 [(0, .ref (a 0)), (1, .int b1)] := hl
  unfold wp_X8_plain at hw
  refine lv_iload_n (pc := 0) C.1 C.2.1 dX8_plain_0 rfl (lv_at hl 1 rfl) ?_
  refine cl_si (pc := 1) (As := [.int b1]) (rest := []) C h (m_X8_isPrice l D t a b1 z _ hw) mw_X8_isPrice lm_X8_75 md_X8_isPrice ⟨by decide, by decide⟩ ⟨Nat.zero_le _, Nat.zero_le _⟩ hl.1 rfl (Nat.le_of_ble_eq_true rfl) dX8_plain_1 (fun r2 z1 H locs hw h => ?_)
  rw [hw.1] at h
  have hw := hw.2
  refine lv_if_ne (tgt := 17) (pc := 4) C.1 C.2.1 dX8_plain_4 (by decide) (fun c3 => ?_) (fun c3 => ?_)
  · have hw := hw.1 c3
    refine lv_aload_n (pc := 17) C.1 C.2.1 dX8_plain_17 rfl (lv_at hl 0 rfl) ?_
    refine GX_X8_10_0 (pc := 18) C h dX8_plain_18 ?_
    refine GX_X8_102_1 (pc := 21) C h dX8_plain_21 ?_
    refine lv_topi (fun x4 ex4 => ?_)
    have hw := hw x4 ex4
    refine lv_istore_n (lv' := [(2, .int x4), (0, .ref (a 0)), (1, .int b1)]) (pc := 24) C.1 C.2.1 dX8_plain_24 rfl hl (by decide) rfl (fun ls hl => ?_)
    refine lv_aload_n (pc := 25) C.1 C.2.1 dX8_plain_25 rfl (lv_at hl 1 rfl) ?_
    refine GX_X8_10_0 (pc := 26) C h dX8_plain_26 ?_
    refine lv_iload_n (pc := 29) C.1 C.2.1 dX8_plain_29 rfl (lv_at hl 2 rfl) ?_
    refine PX_X8_102_1 (pc := 30) C h dX8_plain_30 (fun z5 ez5 H locs h => ?_)
    have hw := hw z5 ez5
    refine lv_aload_n (pc := 33) C.1 C.2.1 dX8_plain_33 rfl (lv_at hl 1 rfl) ?_
    refine GX_X8_10_0 (pc := 34) C h dX8_plain_34 ?_
    refine lv_aload_n (pc := 37) C.1 C.2.1 dX8_plain_37 rfl (lv_at hl 1 rfl) ?_
    refine GX_X8_10_0 (pc := 38) C h dX8_plain_38 ?_
    refine GX_X8_95_1 (pc := 41) C h dX8_plain_41 ?_
    refine lv_aload_n (pc := 44) C.1 C.2.1 dX8_plain_44 rfl (lv_at hl 1 rfl) ?_
    refine GX_X8_37_0 (pc := 45) C h dX8_plain_45 ?_
    refine GX_X8_92_21 (pc := 48) C h dX8_plain_48 ?_
    refine cl_vv (pc := 51) (As := [.ref (a 5), .int (gI z5 2104)]) (rest := []) C h (m_X3_lay_5 l D t a (gI z5 2104) z5 _ hw) mw_X3_lay lm_X8_105 md_X3_lay rcX_1 ⟨by decide, by decide⟩ ⟨Nat.zero_le _, Nat.zero_le _⟩ hl.1 rfl (Nat.le_of_ble_eq_true rfl) dX8_plain_51 (fun z6 H locs hw h => ?_)
    refine lv_aload_n (pc := 54) C.1 C.2.1 dX8_plain_54 rfl (lv_at hl 1 rfl) ?_
    refine lv_iload_n (pc := 55) C.1 C.2.1 dX8_plain_55 rfl (lv_at hl 0 rfl) ?_
    refine cl_vi (pc := 56) (As := [.int x4]) (rest := []) C h (m_X8_accept l D t a x4 z6 _ hw) mw_X8_accept lm_X8_99 md_X8_accept rcX_0 ⟨by decide, by decide⟩ ⟨Nat.zero_le _, Nat.zero_le _⟩ hl.1 rfl (Nat.le_of_ble_eq_true rfl) dX8_plain_56 (fun r9 z8 H locs hw h => ?_)
    exact rt_i (pc := 59) C hr hlk h hw dX8_plain_59
  · have hw := hw.2 c3
    refine lv_aload_n (pc := 7) C.1 C.2.1 dX8_plain_7 rfl (lv_at hl 0 rfl) ?_
    refine lv_iconst (v := -1) (pc := 8) C.1 C.2.1 dX8_plain_8 (by decide) ?_
    refine cl_vi (pc := 9) (As := [.int ((-1 : Int32))]) (rest := []) C h (m_X8_refuse l D t a ((-1 : Int32)) z _ hw) mw_X8_refuse lm_X8_81 md_X8_refuse rcX_0 ⟨by decide, by decide⟩ ⟨Nat.zero_le _, Nat.zero_le _⟩ hl.1 rfl (Nat.le_of_ble_eq_true rfl) dX8_plain_9 (fun r11 z10 H locs hw h => ?_)
    refine lv_pop (pc := 12) C.1 C.2.1 dX8_plain_12 rfl ?_
    refine lv_sipush (v := -5000) (pc := 13) C.1 C.2.1 dX8_plain_13 (by decide) ?_
    exact rt_i (pc := 16) C hr hlk h hw dX8_plain_16

def wp_X3_asKnown (b1 : Int32) (b2 : Int32) (z : St) (P : Int32 → Prop) : Prop :=
  (∀ K2 : Int32 → Prop, (∀ (v1 : Int32), (((v1 < 0) → P (gI z 106)) ∧ (¬ (v1 < 0) → (vp_in v1 400 ∧ (∀ K4 : Prop, ((∀ x5 : Int32, x5 = v1 + (-1) → K2 x5) → K4) → (((¬ (gF z 2 v1.toNatClampNeg) = b1) → K4) ∧ ((gF z 2 v1.toNatClampNeg) = b1 → (vp_in v1 400 ∧ (((b2 < (gF z 4 v1.toNatClampNeg)) → K4) ∧ (¬ (b2 < (gF z 4 v1.toNatClampNeg)) → (vp_in v1 400 ∧ P (gF z 3 v1.toNatClampNeg))))))))))) → K2 v1) → (∀ x8 : Int32, x8 = (gI z 105) - ((1 : Int32)) → K2 x8))
set_option maxHeartbeats 4000000 in
set_option maxRecDepth 100000 in
theorem m_X3_asKnown (l : Launch) (D : va_G) (t : Ty3) (a : Nat → Nat) (b1 : Int32) (b2 : Int32) (z : St) (P : Int32 → Prop) (hw : wp_X3_asKnown b1 b2 z P) : CtI l D t yX3_asKnown cX3_asKnown 4 (some .int) 0 (wX t a) (wX t a z) [.ref (a 1), .int b1, .int b2] (fun rr zz => zz = z ∧ P rr) := by
  refine ctI_of (by decide) (Nat.le_of_ble_eq_true rfl) ?_
  intro p e s m args below meth c A ls C hr hlk h hl
  have hl : lv_has ls 4 [(0, .ref (a 1)), (1, .int b1), (2, .int b2)] := hl
  unfold wp_X3_asKnown at hw
  refine lv_aload_n (pc := 0) C.1 C.2.1 dX3_asKnown_0 rfl (lv_at hl 0 rfl) ?_
  refine GX_X3_27_1 (pc := 1) C h dX3_asKnown_1 ?_
  refine lv_iconst (v := 1) (pc := 4) C.1 C.2.1 dX3_asKnown_4 (by decide) ?_
  refine lv_isub (pc := 5) C.1 C.2.1 dX3_asKnown_5 ?_
  have hw := hw (fun (v1 : Int32) => ∀ (H : Heap) (locs : List Loc) (ls : Array Slot), wd D t A s (wX t a z) H locs → lv_has ls 4 [(0, .ref (a 1)), (1, .int b1), (2, .int b2), (3, .int v1)] → W p l e (rmd 0) s m args below meth c H locs 0 0 (QI D t A (wX t a) (fun rr zz => zz = z ∧ P rr) below args s) (F0 m 7 ls [])) (by
      intro v1 hw H locs ls h hl
      refine lv_iload_n (pc := 7) C.1 C.2.1 dX3_asKnown_7 rfl (lv_at hl 3 rfl) ?_
      refine lv_if_lt (tgt := 44) (pc := 8) C.1 C.2.1 dX3_asKnown_8 (by decide) (fun c3 => ?_) (fun c3 => ?_)
      · have hw := hw.1 c3
        refine lv_aload_n (pc := 44) C.1 C.2.1 dX3_asKnown_44 rfl (lv_at hl 0 rfl) ?_
        refine GX_X3_31_1 (pc := 45) C h dX3_asKnown_45 ?_
        exact rt_i (pc := 48) C hr hlk h ⟨rfl, hw⟩ dX3_asKnown_48
      · have hw := hw.2 c3
        refine lv_aload_n (pc := 11) C.1 C.2.1 dX3_asKnown_11 rfl (lv_at hl 0 rfl) ?_
        refine GX_X3_9_1 (pc := 12) C h dX3_asKnown_12 ?_
        refine lv_iload_n (pc := 15) C.1 C.2.1 dX3_asKnown_15 rfl (lv_at hl 3 rfl) ?_
        refine ldX_2 (pc := 16) C h hw.1 dX3_asKnown_16 ?_
        have hw := hw.2
        refine lv_iload_n (pc := 17) C.1 C.2.1 dX3_asKnown_17 rfl (lv_at hl 1 rfl) ?_
        have hw := hw (∀ (H : Heap) (locs : List Loc) (ls : Array Slot), wd D t A s (wX t a z) H locs → lv_has ls 4 [(0, .ref (a 1)), (1, .int b1), (2, .int b2), (3, .int v1)] → W p l e (rmd 0) s m args below meth c H locs 0 0 (QI D t A (wX t a) (fun rr zz => zz = z ∧ P rr) below args s) (F0 m 38 ls [])) (by
            intro hw H locs ls h hl
            obtain ⟨x5, ex5⟩ : ∃ y : Int32, y = v1 + (-1) := ⟨_, rfl⟩
            have hw := hw x5 ex5
            refine lv_iinc (v := x5) (lv' := [(3, .int x5), (0, .ref (a 1)), (1, .int b1), (2, .int b2)]) (pc := 38) C.1 C.2.1 dX3_asKnown_38 hl (k := 3) rfl (by rw [ex5]; rfl) (by decide) rfl (fun ls hl => ?_)
            refine lv_goto (tgt := 7) (pc := 41) C.1 C.2.1 dX3_asKnown_41 (by decide) ?_
            exact hw _ _ _ h (lv_sub hl [1, 2, 3, 0] rfl))
        refine lv_icmp_ne (tgt := 38) (pc := 18) C.1 C.2.1 dX3_asKnown_18 (by decide) (fun c6 => ?_) (fun c6 => ?_)
        · have hw := hw.1 c6
          exact hw _ _ _ h (lv_sub hl [0, 1, 2, 3] rfl)
        · have hw := hw.2 c6
          refine lv_aload_n (pc := 21) C.1 C.2.1 dX3_asKnown_21 rfl (lv_at hl 0 rfl) ?_
          refine GX_X3_18_1 (pc := 22) C h dX3_asKnown_22 ?_
          refine lv_iload_n (pc := 25) C.1 C.2.1 dX3_asKnown_25 rfl (lv_at hl 3 rfl) ?_
          refine ldX_4 (pc := 26) C h hw.1 dX3_asKnown_26 ?_
          have hw := hw.2
          refine lv_iload_n (pc := 27) C.1 C.2.1 dX3_asKnown_27 rfl (lv_at hl 2 rfl) ?_
          refine lv_icmp_gt (tgt := 38) (pc := 28) C.1 C.2.1 dX3_asKnown_28 (by decide) (fun c7 => ?_) (fun c7 => ?_)
          · have hw := hw.1 c7
            exact hw _ _ _ h (lv_sub hl [0, 1, 2, 3] rfl)
          · have hw := hw.2 c7
            refine lv_aload_n (pc := 31) C.1 C.2.1 dX3_asKnown_31 rfl (lv_at hl 0 rfl) ?_
            refine GX_X3_15_1 (pc := 32) C h dX3_asKnown_32 ?_
            refine lv_iload_n (pc := 35) C.1 C.2.1 dX3_asKnown_35 rfl (lv_at hl 3 rfl) ?_
            refine ldX_3 (pc := 36) C h hw.1 dX3_asKnown_36 ?_
            have hw := hw.2
            exact rt_i (pc := 37) C hr hlk h ⟨rfl, hw⟩ dX3_asKnown_37)
  refine lv_topi (fun x8 ex8 => ?_)
  have hw := hw x8 ex8
  refine lv_istore_n (lv' := [(3, .int x8), (0, .ref (a 1)), (1, .int b1), (2, .int b2)]) (pc := 6) C.1 C.2.1 dX3_asKnown_6 rfl hl (by decide) rfl (fun ls hl => ?_)
  exact hw _ _ _ h (lv_sub hl [1, 2, 3, 0] rfl)

def wp_X8_at (b1 : Int32) (b2 : Int32) (z : St) (P : Int32 → Prop) : Prop :=
  (wp_X8_isHour b1 z (fun r2 => (((r2 = 0) → P ((-5000 : Int32))) ∧ (¬ (r2 = 0) → (wp_X8_isKnown b2 z (fun r5 => (((¬ r5 = 0) → (wp_X3_asKnown b1 b2 z (fun r8 => P r8))) ∧ (r5 = 0 → P ((-5000 : Int32))))))))))
set_option maxHeartbeats 4000000 in
set_option maxRecDepth 100000 in
theorem m_X8_at (l : Launch) (D : va_G) (t : Ty3) (a : Nat → Nat) (b1 : Int32) (b2 : Int32) (z : St) (P : Int32 → Prop) (hw : wp_X8_at b1 b2 z P) : CtI l D t yX8_at cX8_at 3 (some .int) 2 (wX t a) (wX t a z) [.ref (a 0), .int b1, .int b2] (fun rr zz => zz = z ∧ P rr) := by
  refine ctI_of (by decide) (Nat.le_of_ble_eq_true rfl) ?_
  intro p e s m args below meth c A ls C hr hlk h hl
  have hl : lv_has ls 3 [(0, .ref (a 0)), (1, .int b1), (2, .int b2)] := hl
  unfold wp_X8_at at hw
  refine lv_iload_n (pc := 0) C.1 C.2.1 dX8_at_0 rfl (lv_at hl 1 rfl) ?_
  refine cl_si (pc := 1) (As := [.int b1]) (rest := []) C h (m_X8_isHour l D t a b1 z _ hw) mw_X8_isHour lm_X8_71 md_X8_isHour ⟨by decide, by decide⟩ ⟨Nat.zero_le _, Nat.zero_le _⟩ hl.1 rfl (Nat.le_of_ble_eq_true rfl) dX8_at_1 (fun r2 z1 H locs hw h => ?_)
  rw [hw.1] at h
  have hw := hw.2
  refine lv_if_eq (tgt := 14) (pc := 4) C.1 C.2.1 dX8_at_4 (by decide) (fun c3 => ?_) (fun c3 => ?_)
  · have hw := hw.1 c3
    refine lv_sipush (v := -5000) (pc := 14) C.1 C.2.1 dX8_at_14 (by decide) ?_
    exact rt_i (pc := 17) C hr hlk h ⟨rfl, hw⟩ dX8_at_17
  · have hw := hw.2 c3
    refine lv_iload_n (pc := 7) C.1 C.2.1 dX8_at_7 rfl (lv_at hl 2 rfl) ?_
    refine cl_si (pc := 8) (As := [.int b2]) (rest := []) C h (m_X8_isKnown l D t a b2 z _ hw) mw_X8_isKnown lm_X8_78 md_X8_isKnown ⟨by decide, by decide⟩ ⟨Nat.zero_le _, Nat.zero_le _⟩ hl.1 rfl (Nat.le_of_ble_eq_true rfl) dX8_at_8 (fun r5 z4 H locs hw h => ?_)
    rw [hw.1] at h
    have hw := hw.2
    refine lv_if_ne (tgt := 18) (pc := 11) C.1 C.2.1 dX8_at_11 (by decide) (fun c6 => ?_) (fun c6 => ?_)
    · have hw := hw.1 c6
      refine lv_aload_n (pc := 18) C.1 C.2.1 dX8_at_18 rfl (lv_at hl 0 rfl) ?_
      refine GX_X8_10_0 (pc := 19) C h dX8_at_19 ?_
      refine lv_iload_n (pc := 22) C.1 C.2.1 dX8_at_22 rfl (lv_at hl 1 rfl) ?_
      refine lv_iload_n (pc := 23) C.1 C.2.1 dX8_at_23 rfl (lv_at hl 2 rfl) ?_
      refine cl_vi (pc := 24) (As := [.int b1, .int b2]) (rest := []) C h (m_X3_asKnown l D t a b1 b2 z _ hw) mw_X3_asKnown lm_X8_109 md_X3_asKnown rcX_1 ⟨by decide, by decide⟩ ⟨Nat.zero_le _, Nat.zero_le _⟩ hl.1 rfl (Nat.le_of_ble_eq_true rfl) dX8_at_24 (fun r8 z7 H locs hw h => ?_)
      rw [hw.1] at h
      have hw := hw.2
      exact rt_i (pc := 27) C hr hlk h ⟨rfl, hw⟩ dX8_at_27
    · have hw := hw.2 c6
      refine lv_sipush (v := -5000) (pc := 14) C.1 C.2.1 dX8_at_14 (by decide) ?_
      exact rt_i (pc := 17) C hr hlk h ⟨rfl, hw⟩ dX8_at_17

def wp_X0_addHome (b1 : Int32) (z : St) (P : Int32 → St → Prop) : Prop :=
  (vp_in (gI z 705) 4 ∧ (∀ z1 : St, z1 = wR z 8 (upd (gF z 8) (gI z 705).toNatClampNeg b1) → (∀ z2 : St, z2 = wI z1 705 ((gI z1 705) + ((1 : Int32))) → P ((gI z2 705) - ((1 : Int32))) z2)))
set_option maxHeartbeats 4000000 in
set_option maxRecDepth 100000 in
theorem m_X0_addHome (l : Launch) (D : va_G) (t : Ty3) (a : Nat → Nat) (b1 : Int32) (z : St) (P : Int32 → St → Prop) (hw : wp_X0_addHome b1 z P) : CtI l D t yX0_addHome cX0_addHome 2 (some .int) 0 (wX t a) (wX t a z) [.ref (a 7), .int b1] P := by
  refine ctI_of (by decide) (Nat.le_of_ble_eq_true rfl) ?_
  intro p e s m args below meth c A ls C hr hlk h hl
  have hl : lv_has ls 2 [(0, .ref (a 7)), (1, .int b1)] := hl
  unfold wp_X0_addHome at hw
  refine lv_aload_n (pc := 0) C.1 C.2.1 dX0_addHome_0 rfl (lv_at hl 0 rfl) ?_
  refine GX_X0_9_7 (pc := 1) C h dX0_addHome_1 ?_
  refine lv_aload_n (pc := 4) C.1 C.2.1 dX0_addHome_4 rfl (lv_at hl 0 rfl) ?_
  refine GX_X0_27_7 (pc := 5) C h dX0_addHome_5 ?_
  refine lv_iload_n (pc := 8) C.1 C.2.1 dX0_addHome_8 rfl (lv_at hl 1 rfl) ?_
  refine stX_8 (pc := 9) C h hw.1 dX0_addHome_9 (fun z1 ez1 H locs h => ?_)
  have hw := hw.2 z1 ez1
  refine lv_aload_n (pc := 10) C.1 C.2.1 dX0_addHome_10 rfl (lv_at hl 0 rfl) ?_
  refine lv_dup (pc := 11) C.1 C.2.1 dX0_addHome_11 rfl ?_
  refine GX_X0_27_7 (pc := 12) C h dX0_addHome_12 ?_
  refine lv_iconst (v := 1) (pc := 15) C.1 C.2.1 dX0_addHome_15 (by decide) ?_
  refine lv_iadd (pc := 16) C.1 C.2.1 dX0_addHome_16 ?_
  refine PX_X0_27_7 (pc := 17) C h dX0_addHome_17 (fun z2 ez2 H locs h => ?_)
  have hw := hw z2 ez2
  refine lv_aload_n (pc := 20) C.1 C.2.1 dX0_addHome_20 rfl (lv_at hl 0 rfl) ?_
  refine GX_X0_27_7 (pc := 21) C h dX0_addHome_21 ?_
  refine lv_iconst (v := 1) (pc := 24) C.1 C.2.1 dX0_addHome_24 (by decide) ?_
  refine lv_isub (pc := 25) C.1 C.2.1 dX0_addHome_25 ?_
  exact rt_i (pc := 26) C hr hlk h hw dX0_addHome_26

def wp_X8_home (b1 : Int32) (z : St) (P : Int32 → St → Prop) : Prop :=
  (wp_X8_isWithin b1 ((20000 : Int32)) z (fun r2 => (((¬ r2 = 0) → ((((gI z 705) < ((4 : Int32))) → (wp_X0_addHome b1 z (fun r6 z5 => (wp_X8_accept r6 z5 (fun r8 z7 => P r8 z7))))) ∧ (¬ ((gI z 705) < ((4 : Int32))) → (wp_X8_refuse ((-5 : Int32)) z (fun r10 z9 => P r10 z9))))) ∧ (r2 = 0 → (wp_X8_refuse ((-1 : Int32)) z (fun r12 z11 => P r12 z11))))))
set_option maxHeartbeats 4000000 in
set_option maxRecDepth 100000 in
theorem m_X8_home (l : Launch) (D : va_G) (t : Ty3) (a : Nat → Nat) (b1 : Int32) (z : St) (P : Int32 → St → Prop) (hw : wp_X8_home b1 z P) : CtI l D t yX8_home cX8_home 2 (some .int) 1 (wX t a) (wX t a z) [.ref (a 0), .int b1] P := by
  refine ctI_of (by decide) (Nat.le_of_ble_eq_true rfl) ?_
  intro p e s m args below meth c A ls C hr hlk h hl
  have hl : lv_has ls 2 [(0, .ref (a 0)), (1, .int b1)] := hl
  unfold wp_X8_home at hw
  refine lv_iload_n (pc := 0) C.1 C.2.1 dX8_home_0 rfl (lv_at hl 1 rfl) ?_
  refine lv_sipush (v := 20000) (pc := 1) C.1 C.2.1 dX8_home_1 (by decide) ?_
  refine cl_si (pc := 4) (As := [.int b1, .int ((20000 : Int32))]) (rest := []) C h (m_X8_isWithin l D t a b1 ((20000 : Int32)) z _ hw) mw_X8_isWithin lm_X8_113 md_X8_isWithin ⟨by decide, by decide⟩ ⟨Nat.zero_le _, Nat.zero_le _⟩ hl.1 rfl (Nat.le_of_ble_eq_true rfl) dX8_home_4 (fun r2 z1 H locs hw h => ?_)
  rw [hw.1] at h
  have hw := hw.2
  refine lv_if_ne (tgt := 16) (pc := 7) C.1 C.2.1 dX8_home_7 (by decide) (fun c3 => ?_) (fun c3 => ?_)
  · have hw := hw.1 c3
    refine lv_aload_n (pc := 16) C.1 C.2.1 dX8_home_16 rfl (lv_at hl 0 rfl) ?_
    refine GX_X8_19_0 (pc := 17) C h dX8_home_17 ?_
    refine GX_X8_117_7 (pc := 20) C h dX8_home_20 ?_
    refine lv_iconst (v := 4) (pc := 23) C.1 C.2.1 dX8_home_23 (by decide) ?_
    refine lv_icmp_lt (tgt := 34) (pc := 24) C.1 C.2.1 dX8_home_24 (by decide) (fun c4 => ?_) (fun c4 => ?_)
    · have hw := hw.1 c4
      refine lv_aload_n (pc := 34) C.1 C.2.1 dX8_home_34 rfl (lv_at hl 0 rfl) ?_
      refine lv_aload_n (pc := 35) C.1 C.2.1 dX8_home_35 rfl (lv_at hl 0 rfl) ?_
      refine GX_X8_19_0 (pc := 36) C h dX8_home_36 ?_
      refine lv_iload_n (pc := 39) C.1 C.2.1 dX8_home_39 rfl (lv_at hl 1 rfl) ?_
      refine cl_vi (pc := 40) (As := [.int b1]) (rest := [.ref (a 0)]) C h (m_X0_addHome l D t a b1 z _ hw) mw_X0_addHome lm_X8_118 md_X0_addHome rcX_7 ⟨by decide, by decide⟩ ⟨Nat.zero_le _, Nat.zero_le _⟩ hl.1 rfl (Nat.le_of_ble_eq_true rfl) dX8_home_40 (fun r6 z5 H locs hw h => ?_)
      refine cl_vi (pc := 43) (As := [.int r6]) (rest := []) C h (m_X8_accept l D t a r6 z5 _ hw) mw_X8_accept lm_X8_99 md_X8_accept rcX_0 ⟨by decide, by decide⟩ ⟨Nat.zero_le _, Nat.zero_le _⟩ hl.1 rfl (Nat.le_of_ble_eq_true rfl) dX8_home_43 (fun r8 z7 H locs hw h => ?_)
      exact rt_i (pc := 46) C hr hlk h hw dX8_home_46
    · have hw := hw.2 c4
      refine lv_aload_n (pc := 27) C.1 C.2.1 dX8_home_27 rfl (lv_at hl 0 rfl) ?_
      refine lv_bipush (v := -5) (pc := 28) C.1 C.2.1 dX8_home_28 (by decide) ?_
      refine cl_vi (pc := 30) (As := [.int ((-5 : Int32))]) (rest := []) C h (m_X8_refuse l D t a ((-5 : Int32)) z _ hw) mw_X8_refuse lm_X8_81 md_X8_refuse rcX_0 ⟨by decide, by decide⟩ ⟨Nat.zero_le _, Nat.zero_le _⟩ hl.1 rfl (Nat.le_of_ble_eq_true rfl) dX8_home_30 (fun r10 z9 H locs hw h => ?_)
      exact rt_i (pc := 33) C hr hlk h hw dX8_home_33
  · have hw := hw.2 c3
    refine lv_aload_n (pc := 10) C.1 C.2.1 dX8_home_10 rfl (lv_at hl 0 rfl) ?_
    refine lv_iconst (v := -1) (pc := 11) C.1 C.2.1 dX8_home_11 (by decide) ?_
    refine cl_vi (pc := 12) (As := [.int ((-1 : Int32))]) (rest := []) C h (m_X8_refuse l D t a ((-1 : Int32)) z _ hw) mw_X8_refuse lm_X8_81 md_X8_refuse rcX_0 ⟨by decide, by decide⟩ ⟨Nat.zero_le _, Nat.zero_le _⟩ hl.1 rfl (Nat.le_of_ble_eq_true rfl) dX8_home_12 (fun r12 z11 H locs hw h => ?_)
    exact rt_i (pc := 15) C hr hlk h hw dX8_home_15

def wp_X0_has (b1 : Int32) (z : St) (P : Int32 → Prop) : Prop :=
  (((b1 < 0) → P ((0 : Int32))) ∧ (¬ (b1 < 0) → ((((gI z 705) ≤ b1) → P ((0 : Int32))) ∧ (¬ ((gI z 705) ≤ b1) → P ((1 : Int32))))))
set_option maxHeartbeats 4000000 in
set_option maxRecDepth 100000 in
theorem m_X0_has (l : Launch) (D : va_G) (t : Ty3) (a : Nat → Nat) (b1 : Int32) (z : St) (P : Int32 → Prop) (hw : wp_X0_has b1 z P) : CtI l D t yX0_has cX0_has 2 (some .boolean) 0 (wX t a) (wX t a z) [.ref (a 7), .int b1] (fun rr zz => zz = z ∧ P rr) := by
  refine ctI_of (by decide) (Nat.le_of_ble_eq_true rfl) ?_
  intro p e s m args below meth c A ls C hr hlk h hl
  have hl : lv_has ls 2 [(0, .ref (a 7)), (1, .int b1)] := hl
  unfold wp_X0_has at hw
  refine lv_iload_n (pc := 0) C.1 C.2.1 dX0_has_0 rfl (lv_at hl 1 rfl) ?_
  refine lv_if_lt (tgt := 16) (pc := 1) C.1 C.2.1 dX0_has_1 (by decide) (fun c1 => ?_) (fun c1 => ?_)
  · have hw := hw.1 c1
    refine lv_iconst (v := 0) (pc := 16) C.1 C.2.1 dX0_has_16 (by decide) ?_
    exact rt_z (pc := 17) C hr hlk h (Or.inl rfl) ⟨rfl, hw⟩ dX0_has_17
  · have hw := hw.2 c1
    refine lv_iload_n (pc := 4) C.1 C.2.1 dX0_has_4 rfl (lv_at hl 1 rfl) ?_
    refine lv_aload_n (pc := 5) C.1 C.2.1 dX0_has_5 rfl (lv_at hl 0 rfl) ?_
    refine GX_X0_27_7 (pc := 6) C h dX0_has_6 ?_
    refine lv_icmp_ge (tgt := 16) (pc := 9) C.1 C.2.1 dX0_has_9 (by decide) (fun c2 => ?_) (fun c2 => ?_)
    · have hw := hw.1 c2
      refine lv_iconst (v := 0) (pc := 16) C.1 C.2.1 dX0_has_16 (by decide) ?_
      exact rt_z (pc := 17) C hr hlk h (Or.inl rfl) ⟨rfl, hw⟩ dX0_has_17
    · have hw := hw.2 c2
      refine lv_iconst (v := 1) (pc := 12) C.1 C.2.1 dX0_has_12 (by decide) ?_
      refine lv_goto (tgt := 17) (pc := 13) C.1 C.2.1 dX0_has_13 (by decide) ?_
      exact rt_z (pc := 17) C hr hlk h (Or.inr rfl) ⟨rfl, hw⟩ dX0_has_17

def wp_X0_setBase (b1 : Int32) (b2 : Int32) (b3 : Int32) (z : St) (P : St → Prop) : Prop :=
  (vp_in b2 24 ∧ (vp_in ((b1 * ((24 : Int32))) + b2) 96 ∧ (vp_in b2 24 ∧ (∀ z1 : St, z1 = wR z 11 (upd (gF z 11) b2.toNatClampNeg ((gF z 11 b2.toNatClampNeg) + (b3 - (gF z 9 ((b1 * ((24 : Int32))) + b2).toNatClampNeg)))) → (vp_in ((b1 * ((24 : Int32))) + b2) 96 ∧ (∀ z2 : St, z2 = wR z1 9 (upd (gF z1 9) ((b1 * ((24 : Int32))) + b2).toNatClampNeg b3) → P z2))))))
set_option maxHeartbeats 4000000 in
set_option maxRecDepth 100000 in
theorem m_X0_setBase (l : Launch) (D : va_G) (t : Ty3) (a : Nat → Nat) (b1 : Int32) (b2 : Int32) (b3 : Int32) (z : St) (P : St → Prop) (hw : wp_X0_setBase b1 b2 b3 z P) : CtV l D t yX0_setBase cX0_setBase 4 none 0 (wX t a) (wX t a z) [.ref (a 7), .int b1, .int b2, .int b3] P := by
  refine ctV_of (by decide) (Nat.le_of_ble_eq_true rfl) ?_
  intro p e s m args below meth c A ls C hr hlk h hl
  have hl : lv_has ls 4 [(0, .ref (a 7)), (1, .int b1), (2, .int b2), (3, .int b3)] := hl
  unfold wp_X0_setBase at hw
  refine lv_aload_n (pc := 0) C.1 C.2.1 dX0_setBase_0 rfl (lv_at hl 0 rfl) ?_
  refine GX_X0_21_7 (pc := 1) C h dX0_setBase_1 ?_
  refine lv_iload_n (pc := 4) C.1 C.2.1 dX0_setBase_4 rfl (lv_at hl 2 rfl) ?_
  refine lv_dup2_11 (pc := 5) C.1 C.2.1 dX0_setBase_5 rfl rfl ?_
  refine ldX_11 (pc := 6) C h hw.1 dX0_setBase_6 ?_
  have hw := hw.2
  refine lv_iload_n (pc := 7) C.1 C.2.1 dX0_setBase_7 rfl (lv_at hl 3 rfl) ?_
  refine lv_aload_n (pc := 8) C.1 C.2.1 dX0_setBase_8 rfl (lv_at hl 0 rfl) ?_
  refine GX_X0_15_7 (pc := 9) C h dX0_setBase_9 ?_
  refine lv_iload_n (pc := 12) C.1 C.2.1 dX0_setBase_12 rfl (lv_at hl 1 rfl) ?_
  refine lv_bipush (v := 24) (pc := 13) C.1 C.2.1 dX0_setBase_13 (by decide) ?_
  refine lv_imul (pc := 15) C.1 C.2.1 dX0_setBase_15 ?_
  refine lv_iload_n (pc := 16) C.1 C.2.1 dX0_setBase_16 rfl (lv_at hl 2 rfl) ?_
  refine lv_iadd (pc := 17) C.1 C.2.1 dX0_setBase_17 ?_
  refine ldX_9 (pc := 18) C h hw.1 dX0_setBase_18 ?_
  have hw := hw.2
  refine lv_isub (pc := 19) C.1 C.2.1 dX0_setBase_19 ?_
  refine lv_iadd (pc := 20) C.1 C.2.1 dX0_setBase_20 ?_
  refine stX_11 (pc := 21) C h hw.1 dX0_setBase_21 (fun z1 ez1 H locs h => ?_)
  have hw := hw.2 z1 ez1
  refine lv_aload_n (pc := 22) C.1 C.2.1 dX0_setBase_22 rfl (lv_at hl 0 rfl) ?_
  refine GX_X0_15_7 (pc := 23) C h dX0_setBase_23 ?_
  refine lv_iload_n (pc := 26) C.1 C.2.1 dX0_setBase_26 rfl (lv_at hl 1 rfl) ?_
  refine lv_bipush (v := 24) (pc := 27) C.1 C.2.1 dX0_setBase_27 (by decide) ?_
  refine lv_imul (pc := 29) C.1 C.2.1 dX0_setBase_29 ?_
  refine lv_iload_n (pc := 30) C.1 C.2.1 dX0_setBase_30 rfl (lv_at hl 2 rfl) ?_
  refine lv_iadd (pc := 31) C.1 C.2.1 dX0_setBase_31 ?_
  refine lv_iload_n (pc := 32) C.1 C.2.1 dX0_setBase_32 rfl (lv_at hl 3 rfl) ?_
  refine stX_9 (pc := 33) C h hw.1 dX0_setBase_33 (fun z2 ez2 H locs h => ?_)
  have hw := hw.2 z2 ez2
  exact rt_v (pc := 34) C hr hlk h hw dX0_setBase_34

def wp_X8_base (b1 : Int32) (b2 : Int32) (b3 : Int32) (z : St) (P : Int32 → St → Prop) : Prop :=
  (wp_X8_isWithin b2 ((23 : Int32)) z (fun r2 => (∀ K3 : Prop, ((wp_X8_refuse ((-1 : Int32)) z (fun r5 z4 => P r5 z4)) → K3) → (((r2 = 0) → K3) ∧ (¬ (r2 = 0) → (wp_X8_isWithin b3 ((5000 : Int32)) z (fun r8 => (((¬ r8 = 0) → (wp_X0_has b1 z (fun r11 => (((¬ r11 = 0) → (wp_X0_setBase b1 b2 b3 z (fun z13 => (wp_X8_accept ((0 : Int32)) z13 (fun r16 z15 => P r16 z15))))) ∧ (r11 = 0 → (wp_X8_refuse ((-2 : Int32)) z (fun r18 z17 => P r18 z17))))))) ∧ (r8 = 0 → K3)))))))))
set_option maxHeartbeats 4000000 in
set_option maxRecDepth 100000 in
theorem m_X8_base (l : Launch) (D : va_G) (t : Ty3) (a : Nat → Nat) (b1 : Int32) (b2 : Int32) (b3 : Int32) (z : St) (P : Int32 → St → Prop) (hw : wp_X8_base b1 b2 b3 z P) : CtI l D t yX8_base cX8_base 4 (some .int) 1 (wX t a) (wX t a z) [.ref (a 0), .int b1, .int b2, .int b3] P := by
  refine ctI_of (by decide) (Nat.le_of_ble_eq_true rfl) ?_
  intro p e s m args below meth c A ls C hr hlk h hl
  have hl : lv_has ls 4 [(0, .ref (a 0)), (1, .int b1), (2, .int b2), (3, .int b3)] := hl
  unfold wp_X8_base at hw
  refine lv_iload_n (pc := 0) C.1 C.2.1 dX8_base_0 rfl (lv_at hl 2 rfl) ?_
  refine lv_bipush (v := 23) (pc := 1) C.1 C.2.1 dX8_base_1 (by decide) ?_
  refine cl_si (pc := 3) (As := [.int b2, .int ((23 : Int32))]) (rest := []) C h (m_X8_isWithin l D t a b2 ((23 : Int32)) z _ hw) mw_X8_isWithin lm_X8_113 md_X8_isWithin ⟨by decide, by decide⟩ ⟨Nat.zero_le _, Nat.zero_le _⟩ hl.1 rfl (Nat.le_of_ble_eq_true rfl) dX8_base_3 (fun r2 z1 H locs hw h => ?_)
  rw [hw.1] at h
  have hw := hw.2
  have hw := hw (∀ (H : Heap) (locs : List Loc) (ls : Array Slot), wd D t A s (wX t a z) H locs → lv_has ls 4 [(0, .ref (a 0))] → W p l e (rmd 1) s m args below meth c H locs 0 0 (QI D t A (wX t a) P below args s) (F0 m 19 ls [])) (by
      intro hw H locs ls h hl
      refine lv_aload_n (pc := 19) C.1 C.2.1 dX8_base_19 rfl (lv_at hl 0 rfl) ?_
      refine lv_iconst (v := -1) (pc := 20) C.1 C.2.1 dX8_base_20 (by decide) ?_
      refine cl_vi (pc := 21) (As := [.int ((-1 : Int32))]) (rest := []) C h (m_X8_refuse l D t a ((-1 : Int32)) z _ hw) mw_X8_refuse lm_X8_81 md_X8_refuse rcX_0 ⟨by decide, by decide⟩ ⟨Nat.zero_le _, Nat.zero_le _⟩ hl.1 rfl (Nat.le_of_ble_eq_true rfl) dX8_base_21 (fun r5 z4 H locs hw h => ?_)
      exact rt_i (pc := 24) C hr hlk h hw dX8_base_24)
  refine lv_if_eq (tgt := 19) (pc := 6) C.1 C.2.1 dX8_base_6 (by decide) (fun c6 => ?_) (fun c6 => ?_)
  · have hw := hw.1 c6
    exact hw _ _ _ h (lv_sub hl [0] rfl)
  · have hw := hw.2 c6
    refine lv_iload_n (pc := 9) C.1 C.2.1 dX8_base_9 rfl (lv_at hl 3 rfl) ?_
    refine lv_sipush (v := 5000) (pc := 10) C.1 C.2.1 dX8_base_10 (by decide) ?_
    refine cl_si (pc := 13) (As := [.int b3, .int ((5000 : Int32))]) (rest := []) C h (m_X8_isWithin l D t a b3 ((5000 : Int32)) z _ hw) mw_X8_isWithin lm_X8_113 md_X8_isWithin ⟨by decide, by decide⟩ ⟨Nat.zero_le _, Nat.zero_le _⟩ hl.1 rfl (Nat.le_of_ble_eq_true rfl) dX8_base_13 (fun r8 z7 H locs hw h => ?_)
    rw [hw.1] at h
    have hw := hw.2
    refine lv_if_ne (tgt := 25) (pc := 16) C.1 C.2.1 dX8_base_16 (by decide) (fun c9 => ?_) (fun c9 => ?_)
    · have hw := hw.1 c9
      refine lv_aload_n (pc := 25) C.1 C.2.1 dX8_base_25 rfl (lv_at hl 0 rfl) ?_
      refine GX_X8_19_0 (pc := 26) C h dX8_base_26 ?_
      refine lv_iload_n (pc := 29) C.1 C.2.1 dX8_base_29 rfl (lv_at hl 1 rfl) ?_
      refine cl_vi (pc := 30) (As := [.int b1]) (rest := []) C h (m_X0_has l D t a b1 z _ hw) mw_X0_has lm_X8_121 md_X0_has rcX_7 ⟨by decide, by decide⟩ ⟨Nat.zero_le _, Nat.zero_le _⟩ hl.1 rfl (Nat.le_of_ble_eq_true rfl) dX8_base_30 (fun r11 z10 H locs hw h => ?_)
      rw [hw.1] at h
      have hw := hw.2
      refine lv_if_ne (tgt := 43) (pc := 33) C.1 C.2.1 dX8_base_33 (by decide) (fun c12 => ?_) (fun c12 => ?_)
      · have hw := hw.1 c12
        refine lv_aload_n (pc := 43) C.1 C.2.1 dX8_base_43 rfl (lv_at hl 0 rfl) ?_
        refine GX_X8_19_0 (pc := 44) C h dX8_base_44 ?_
        refine lv_iload_n (pc := 47) C.1 C.2.1 dX8_base_47 rfl (lv_at hl 1 rfl) ?_
        refine lv_iload_n (pc := 48) C.1 C.2.1 dX8_base_48 rfl (lv_at hl 2 rfl) ?_
        refine lv_iload_n (pc := 49) C.1 C.2.1 dX8_base_49 rfl (lv_at hl 3 rfl) ?_
        refine cl_vv (pc := 50) (As := [.int b1, .int b2, .int b3]) (rest := []) C h (m_X0_setBase l D t a b1 b2 b3 z _ hw) mw_X0_setBase lm_X8_124 md_X0_setBase rcX_7 ⟨by decide, by decide⟩ ⟨Nat.zero_le _, Nat.zero_le _⟩ hl.1 rfl (Nat.le_of_ble_eq_true rfl) dX8_base_50 (fun z13 H locs hw h => ?_)
        refine lv_aload_n (pc := 53) C.1 C.2.1 dX8_base_53 rfl (lv_at hl 0 rfl) ?_
        refine lv_iconst (v := 0) (pc := 54) C.1 C.2.1 dX8_base_54 (by decide) ?_
        refine cl_vi (pc := 55) (As := [.int ((0 : Int32))]) (rest := []) C h (m_X8_accept l D t a ((0 : Int32)) z13 _ hw) mw_X8_accept lm_X8_99 md_X8_accept rcX_0 ⟨by decide, by decide⟩ ⟨Nat.zero_le _, Nat.zero_le _⟩ hl.1 rfl (Nat.le_of_ble_eq_true rfl) dX8_base_55 (fun r16 z15 H locs hw h => ?_)
        exact rt_i (pc := 58) C hr hlk h hw dX8_base_58
      · have hw := hw.2 c12
        refine lv_aload_n (pc := 36) C.1 C.2.1 dX8_base_36 rfl (lv_at hl 0 rfl) ?_
        refine lv_bipush (v := -2) (pc := 37) C.1 C.2.1 dX8_base_37 (by decide) ?_
        refine cl_vi (pc := 39) (As := [.int ((-2 : Int32))]) (rest := []) C h (m_X8_refuse l D t a ((-2 : Int32)) z _ hw) mw_X8_refuse lm_X8_81 md_X8_refuse rcX_0 ⟨by decide, by decide⟩ ⟨Nat.zero_le _, Nat.zero_le _⟩ hl.1 rfl (Nat.le_of_ble_eq_true rfl) dX8_base_39 (fun r18 z17 H locs hw h => ?_)
        exact rt_i (pc := 42) C hr hlk h hw dX8_base_42
    · have hw := hw.2 c9
      exact hw _ _ _ h (lv_sub hl [0] rfl)

def wp_X8_cable (b1 : Int32) (z : St) (P : Int32 → St → Prop) : Prop :=
  (wp_X8_isWithin b1 ((80000 : Int32)) z (fun r2 => (((¬ r2 = 0) → (∀ x4 : Int32, x4 = gI z 706 → (∀ z5 : St, z5 = wI z 706 b1 → (wp_X8_accept x4 z5 (fun r7 z6 => P r7 z6))))) ∧ (r2 = 0 → (wp_X8_refuse ((-1 : Int32)) z (fun r9 z8 => P r9 z8))))))
set_option maxHeartbeats 4000000 in
set_option maxRecDepth 100000 in
theorem m_X8_cable (l : Launch) (D : va_G) (t : Ty3) (a : Nat → Nat) (b1 : Int32) (z : St) (P : Int32 → St → Prop) (hw : wp_X8_cable b1 z P) : CtI l D t yX8_cable cX8_cable 3 (some .int) 1 (wX t a) (wX t a z) [.ref (a 0), .int b1] P := by
  refine ctI_of (by decide) (Nat.le_of_ble_eq_true rfl) ?_
  intro p e s m args below meth c A ls C hr hlk h hl
  have hl : lv_has ls 3 [(0, .ref (a 0)), (1, .int b1)] := hl
  unfold wp_X8_cable at hw
  refine lv_iload_n (pc := 0) C.1 C.2.1 dX8_cable_0 rfl (lv_at hl 1 rfl) ?_
  refine lv_ldc (pc := 1) C.1 C.2.1 C.2.2.2.1 (C.2.2.2.2 _ lc_X8_127) dX8_cable_1 ?_
  refine cl_si (pc := 3) (As := [.int b1, .int ((80000 : Int32))]) (rest := []) C h (m_X8_isWithin l D t a b1 ((80000 : Int32)) z _ hw) mw_X8_isWithin lm_X8_113 md_X8_isWithin ⟨by decide, by decide⟩ ⟨Nat.zero_le _, Nat.zero_le _⟩ hl.1 rfl (Nat.le_of_ble_eq_true rfl) dX8_cable_3 (fun r2 z1 H locs hw h => ?_)
  rw [hw.1] at h
  have hw := hw.2
  refine lv_if_ne (tgt := 15) (pc := 6) C.1 C.2.1 dX8_cable_6 (by decide) (fun c3 => ?_) (fun c3 => ?_)
  · have hw := hw.1 c3
    refine lv_aload_n (pc := 15) C.1 C.2.1 dX8_cable_15 rfl (lv_at hl 0 rfl) ?_
    refine GX_X8_19_0 (pc := 16) C h dX8_cable_16 ?_
    refine GX_X8_128_7 (pc := 19) C h dX8_cable_19 ?_
    refine lv_topi (fun x4 ex4 => ?_)
    have hw := hw x4 ex4
    refine lv_istore_n (lv' := [(2, .int x4), (0, .ref (a 0)), (1, .int b1)]) (pc := 22) C.1 C.2.1 dX8_cable_22 rfl hl (by decide) rfl (fun ls hl => ?_)
    refine lv_aload_n (pc := 23) C.1 C.2.1 dX8_cable_23 rfl (lv_at hl 1 rfl) ?_
    refine GX_X8_19_0 (pc := 24) C h dX8_cable_24 ?_
    refine lv_iload_n (pc := 27) C.1 C.2.1 dX8_cable_27 rfl (lv_at hl 2 rfl) ?_
    refine PX_X8_128_7 (pc := 28) C h dX8_cable_28 (fun z5 ez5 H locs h => ?_)
    have hw := hw z5 ez5
    refine lv_aload_n (pc := 31) C.1 C.2.1 dX8_cable_31 rfl (lv_at hl 1 rfl) ?_
    refine lv_iload_n (pc := 32) C.1 C.2.1 dX8_cable_32 rfl (lv_at hl 0 rfl) ?_
    refine cl_vi (pc := 33) (As := [.int x4]) (rest := []) C h (m_X8_accept l D t a x4 z5 _ hw) mw_X8_accept lm_X8_99 md_X8_accept rcX_0 ⟨by decide, by decide⟩ ⟨Nat.zero_le _, Nat.zero_le _⟩ hl.1 rfl (Nat.le_of_ble_eq_true rfl) dX8_cable_33 (fun r7 z6 H locs hw h => ?_)
    exact rt_i (pc := 36) C hr hlk h hw dX8_cable_36
  · have hw := hw.2 c3
    refine lv_aload_n (pc := 9) C.1 C.2.1 dX8_cable_9 rfl (lv_at hl 0 rfl) ?_
    refine lv_iconst (v := -1) (pc := 10) C.1 C.2.1 dX8_cable_10 (by decide) ?_
    refine cl_vi (pc := 11) (As := [.int ((-1 : Int32))]) (rest := []) C h (m_X8_refuse l D t a ((-1 : Int32)) z _ hw) mw_X8_refuse lm_X8_81 md_X8_refuse rcX_0 ⟨by decide, by decide⟩ ⟨Nat.zero_le _, Nat.zero_le _⟩ hl.1 rfl (Nat.le_of_ble_eq_true rfl) dX8_cable_11 (fun r9 z8 H locs hw h => ?_)
    exact rt_i (pc := 14) C hr hlk h hw dX8_cable_14

def wp_X8_isNeed (b1 : Int32) (z : St) (P : Int32 → Prop) : Prop :=
  (wp_X8_isWithin b1 ((5000 : Int32)) z (fun r2 => ((r2 = 0 ∨ r2 = 1) ∧ P r2)))
set_option maxHeartbeats 4000000 in
set_option maxRecDepth 100000 in
theorem m_X8_isNeed (l : Launch) (D : va_G) (t : Ty3) (a : Nat → Nat) (b1 : Int32) (z : St) (P : Int32 → Prop) (hw : wp_X8_isNeed b1 z P) : CtI l D t yX8_isNeed cX8_isNeed 1 (some .boolean) 1 (wX t a) (wX t a z) [.int b1] (fun rr zz => zz = z ∧ P rr) := by
  refine ctI_of (by decide) (Nat.le_of_ble_eq_true rfl) ?_
  intro p e s m args below meth c A ls C hr hlk h hl
  have hl : lv_has ls 1 [(0, .int b1)] := hl
  unfold wp_X8_isNeed at hw
  refine lv_iload_n (pc := 0) C.1 C.2.1 dX8_isNeed_0 rfl (lv_at hl 0 rfl) ?_
  refine lv_sipush (v := 5000) (pc := 1) C.1 C.2.1 dX8_isNeed_1 (by decide) ?_
  refine cl_si (pc := 4) (As := [.int b1, .int ((5000 : Int32))]) (rest := []) C h (m_X8_isWithin l D t a b1 ((5000 : Int32)) z _ hw) mw_X8_isWithin lm_X8_113 md_X8_isWithin ⟨by decide, by decide⟩ ⟨Nat.zero_le _, Nat.zero_le _⟩ hl.1 rfl (Nat.le_of_ble_eq_true rfl) dX8_isNeed_4 (fun r2 z1 H locs hw h => ?_)
  rw [hw.1] at h
  have hw := hw.2
  exact rt_z (pc := 7) C hr hlk h hw.1 ⟨rfl, hw.2⟩ dX8_isNeed_7

def wp_X1_add (b1 : Int32) (b2 : Int32) (b3 : Int32) (b4 : Int32) (z : St) (P : Int32 → St → Prop) : Prop :=
  (vp_in (gI z 1308) 16 ∧ (∀ z1 : St, z1 = wR z 14 (upd (gF z 14) (gI z 1308).toNatClampNeg b1) → (vp_in (gI z1 1308) 16 ∧ (∀ z2 : St, z2 = wR z1 15 (upd (gF z1 15) (gI z1 1308).toNatClampNeg b2) → (vp_in (gI z2 1308) 16 ∧ (∀ z3 : St, z3 = wR z2 16 (upd (gF z2 16) (gI z2 1308).toNatClampNeg b3) → (vp_in (gI z3 1308) 16 ∧ (∀ z4 : St, z4 = wR z3 17 (upd (gF z3 17) (gI z3 1308).toNatClampNeg b4) → (vp_in (gI z4 1308) 16 ∧ (∀ z5 : St, z5 = wR z4 19 (upd (gF z4 19) (gI z4 1308).toNatClampNeg ((0 : Int32))) → (vp_in (gI z5 1308) 16 ∧ (∀ z6 : St, z6 = wR z5 20 (upd (gF z5 20) (gI z5 1308).toNatClampNeg ((-1 : Int32))) → (∀ z7 : St, z7 = wI z6 1308 ((gI z6 1308) + ((1 : Int32))) → P ((gI z7 1308) - ((1 : Int32))) z7)))))))))))))
set_option maxHeartbeats 4000000 in
set_option maxRecDepth 100000 in
theorem m_X1_add (l : Launch) (D : va_G) (t : Ty3) (a : Nat → Nat) (b1 : Int32) (b2 : Int32) (b3 : Int32) (b4 : Int32) (z : St) (P : Int32 → St → Prop) (hw : wp_X1_add b1 b2 b3 b4 z P) : CtI l D t yX1_add cX1_add 5 (some .int) 0 (wX t a) (wX t a z) [.ref (a 13), .int b1, .int b2, .int b3, .int b4] P := by
  refine ctI_of (by decide) (Nat.le_of_ble_eq_true rfl) ?_
  intro p e s m args below meth c A ls C hr hlk h hl
  have hl : lv_has ls 5 [(0, .ref (a 13)), (1, .int b1), (2, .int b2), (3, .int b3), (4, .int b4)] := hl
  unfold wp_X1_add at hw
  refine lv_aload_n (pc := 0) C.1 C.2.1 dX1_add_0 rfl (lv_at hl 0 rfl) ?_
  refine GX_X1_9_13 (pc := 1) C h dX1_add_1 ?_
  refine lv_aload_n (pc := 4) C.1 C.2.1 dX1_add_4 rfl (lv_at hl 0 rfl) ?_
  refine GX_X1_37_13 (pc := 5) C h dX1_add_5 ?_
  refine lv_iload_n (pc := 8) C.1 C.2.1 dX1_add_8 rfl (lv_at hl 1 rfl) ?_
  refine stX_14 (pc := 9) C h hw.1 dX1_add_9 (fun z1 ez1 H locs h => ?_)
  have hw := hw.2 z1 ez1
  refine lv_aload_n (pc := 10) C.1 C.2.1 dX1_add_10 rfl (lv_at hl 0 rfl) ?_
  refine GX_X1_15_13 (pc := 11) C h dX1_add_11 ?_
  refine lv_aload_n (pc := 14) C.1 C.2.1 dX1_add_14 rfl (lv_at hl 0 rfl) ?_
  refine GX_X1_37_13 (pc := 15) C h dX1_add_15 ?_
  refine lv_iload_n (pc := 18) C.1 C.2.1 dX1_add_18 rfl (lv_at hl 2 rfl) ?_
  refine stX_15 (pc := 19) C h hw.1 dX1_add_19 (fun z2 ez2 H locs h => ?_)
  have hw := hw.2 z2 ez2
  refine lv_aload_n (pc := 20) C.1 C.2.1 dX1_add_20 rfl (lv_at hl 0 rfl) ?_
  refine GX_X1_18_13 (pc := 21) C h dX1_add_21 ?_
  refine lv_aload_n (pc := 24) C.1 C.2.1 dX1_add_24 rfl (lv_at hl 0 rfl) ?_
  refine GX_X1_37_13 (pc := 25) C h dX1_add_25 ?_
  refine lv_iload_n (pc := 28) C.1 C.2.1 dX1_add_28 rfl (lv_at hl 3 rfl) ?_
  refine stX_16 (pc := 29) C h hw.1 dX1_add_29 (fun z3 ez3 H locs h => ?_)
  have hw := hw.2 z3 ez3
  refine lv_aload_n (pc := 30) C.1 C.2.1 dX1_add_30 rfl (lv_at hl 0 rfl) ?_
  refine GX_X1_21_13 (pc := 31) C h dX1_add_31 ?_
  refine lv_aload_n (pc := 34) C.1 C.2.1 dX1_add_34 rfl (lv_at hl 0 rfl) ?_
  refine GX_X1_37_13 (pc := 35) C h dX1_add_35 ?_
  refine lv_iload (pc := 38) C.1 C.2.1 dX1_add_38 (lv_at hl 4 rfl) ?_
  refine stX_17 (pc := 40) C h hw.1 dX1_add_40 (fun z4 ez4 H locs h => ?_)
  have hw := hw.2 z4 ez4
  refine lv_aload_n (pc := 41) C.1 C.2.1 dX1_add_41 rfl (lv_at hl 0 rfl) ?_
  refine GX_X1_27_13 (pc := 42) C h dX1_add_42 ?_
  refine lv_aload_n (pc := 45) C.1 C.2.1 dX1_add_45 rfl (lv_at hl 0 rfl) ?_
  refine GX_X1_37_13 (pc := 46) C h dX1_add_46 ?_
  refine lv_iconst (v := 0) (pc := 49) C.1 C.2.1 dX1_add_49 (by decide) ?_
  refine stX_19 (pc := 50) C h hw.1 dX1_add_50 (fun z5 ez5 H locs h => ?_)
  have hw := hw.2 z5 ez5
  refine lv_aload_n (pc := 51) C.1 C.2.1 dX1_add_51 rfl (lv_at hl 0 rfl) ?_
  refine GX_X1_30_13 (pc := 52) C h dX1_add_52 ?_
  refine lv_aload_n (pc := 55) C.1 C.2.1 dX1_add_55 rfl (lv_at hl 0 rfl) ?_
  refine GX_X1_37_13 (pc := 56) C h dX1_add_56 ?_
  refine lv_iconst (v := -1) (pc := 59) C.1 C.2.1 dX1_add_59 (by decide) ?_
  refine stX_20 (pc := 60) C h hw.1 dX1_add_60 (fun z6 ez6 H locs h => ?_)
  have hw := hw.2 z6 ez6
  refine lv_aload_n (pc := 61) C.1 C.2.1 dX1_add_61 rfl (lv_at hl 0 rfl) ?_
  refine lv_dup (pc := 62) C.1 C.2.1 dX1_add_62 rfl ?_
  refine GX_X1_37_13 (pc := 63) C h dX1_add_63 ?_
  refine lv_iconst (v := 1) (pc := 66) C.1 C.2.1 dX1_add_66 (by decide) ?_
  refine lv_iadd (pc := 67) C.1 C.2.1 dX1_add_67 ?_
  refine PX_X1_37_13 (pc := 68) C h dX1_add_68 (fun z7 ez7 H locs h => ?_)
  have hw := hw z7 ez7
  refine lv_aload_n (pc := 71) C.1 C.2.1 dX1_add_71 rfl (lv_at hl 0 rfl) ?_
  refine GX_X1_37_13 (pc := 72) C h dX1_add_72 ?_
  refine lv_iconst (v := 1) (pc := 75) C.1 C.2.1 dX1_add_75 (by decide) ?_
  refine lv_isub (pc := 76) C.1 C.2.1 dX1_add_76 ?_
  exact rt_i (pc := 77) C hr hlk h hw dX1_add_77

def wp_X1_setNeeds (b1 : Int32) (b2 : Int32) (b3 : Int32) (b4 : Int32) (b5 : Int32) (z : St) (P : St → Prop) : Prop :=
  (vp_in (b1 * ((4 : Int32))) 64 ∧ (∀ z1 : St, z1 = wR z 18 (upd (gF z 18) (b1 * ((4 : Int32))).toNatClampNeg b2) → (vp_in ((b1 * ((4 : Int32))) + ((1 : Int32))) 64 ∧ (∀ z2 : St, z2 = wR z1 18 (upd (gF z1 18) ((b1 * ((4 : Int32))) + ((1 : Int32))).toNatClampNeg b3) → (vp_in ((b1 * ((4 : Int32))) + ((2 : Int32))) 64 ∧ (∀ z3 : St, z3 = wR z2 18 (upd (gF z2 18) ((b1 * ((4 : Int32))) + ((2 : Int32))).toNatClampNeg b4) → (vp_in ((b1 * ((4 : Int32))) + ((3 : Int32))) 64 ∧ (∀ z4 : St, z4 = wR z3 18 (upd (gF z3 18) ((b1 * ((4 : Int32))) + ((3 : Int32))).toNatClampNeg b5) → P z4))))))))
set_option maxHeartbeats 4000000 in
set_option maxRecDepth 100000 in
theorem m_X1_setNeeds (l : Launch) (D : va_G) (t : Ty3) (a : Nat → Nat) (b1 : Int32) (b2 : Int32) (b3 : Int32) (b4 : Int32) (b5 : Int32) (z : St) (P : St → Prop) (hw : wp_X1_setNeeds b1 b2 b3 b4 b5 z P) : CtV l D t yX1_setNeeds cX1_setNeeds 6 none 0 (wX t a) (wX t a z) [.ref (a 13), .int b1, .int b2, .int b3, .int b4, .int b5] P := by
  refine ctV_of (by decide) (Nat.le_of_ble_eq_true rfl) ?_
  intro p e s m args below meth c A ls C hr hlk h hl
  have hl : lv_has ls 6 [(0, .ref (a 13)), (1, .int b1), (2, .int b2), (3, .int b3), (4, .int b4), (5, .int b5)] := hl
  unfold wp_X1_setNeeds at hw
  refine lv_aload_n (pc := 0) C.1 C.2.1 dX1_setNeeds_0 rfl (lv_at hl 0 rfl) ?_
  refine GX_X1_24_13 (pc := 1) C h dX1_setNeeds_1 ?_
  refine lv_iload_n (pc := 4) C.1 C.2.1 dX1_setNeeds_4 rfl (lv_at hl 1 rfl) ?_
  refine lv_iconst (v := 4) (pc := 5) C.1 C.2.1 dX1_setNeeds_5 (by decide) ?_
  refine lv_imul (pc := 6) C.1 C.2.1 dX1_setNeeds_6 ?_
  refine lv_iload_n (pc := 7) C.1 C.2.1 dX1_setNeeds_7 rfl (lv_at hl 2 rfl) ?_
  refine stX_18 (pc := 8) C h hw.1 dX1_setNeeds_8 (fun z1 ez1 H locs h => ?_)
  have hw := hw.2 z1 ez1
  refine lv_aload_n (pc := 9) C.1 C.2.1 dX1_setNeeds_9 rfl (lv_at hl 0 rfl) ?_
  refine GX_X1_24_13 (pc := 10) C h dX1_setNeeds_10 ?_
  refine lv_iload_n (pc := 13) C.1 C.2.1 dX1_setNeeds_13 rfl (lv_at hl 1 rfl) ?_
  refine lv_iconst (v := 4) (pc := 14) C.1 C.2.1 dX1_setNeeds_14 (by decide) ?_
  refine lv_imul (pc := 15) C.1 C.2.1 dX1_setNeeds_15 ?_
  refine lv_iconst (v := 1) (pc := 16) C.1 C.2.1 dX1_setNeeds_16 (by decide) ?_
  refine lv_iadd (pc := 17) C.1 C.2.1 dX1_setNeeds_17 ?_
  refine lv_iload_n (pc := 18) C.1 C.2.1 dX1_setNeeds_18 rfl (lv_at hl 3 rfl) ?_
  refine stX_18 (pc := 19) C h hw.1 dX1_setNeeds_19 (fun z2 ez2 H locs h => ?_)
  have hw := hw.2 z2 ez2
  refine lv_aload_n (pc := 20) C.1 C.2.1 dX1_setNeeds_20 rfl (lv_at hl 0 rfl) ?_
  refine GX_X1_24_13 (pc := 21) C h dX1_setNeeds_21 ?_
  refine lv_iload_n (pc := 24) C.1 C.2.1 dX1_setNeeds_24 rfl (lv_at hl 1 rfl) ?_
  refine lv_iconst (v := 4) (pc := 25) C.1 C.2.1 dX1_setNeeds_25 (by decide) ?_
  refine lv_imul (pc := 26) C.1 C.2.1 dX1_setNeeds_26 ?_
  refine lv_iconst (v := 2) (pc := 27) C.1 C.2.1 dX1_setNeeds_27 (by decide) ?_
  refine lv_iadd (pc := 28) C.1 C.2.1 dX1_setNeeds_28 ?_
  refine lv_iload (pc := 29) C.1 C.2.1 dX1_setNeeds_29 (lv_at hl 4 rfl) ?_
  refine stX_18 (pc := 31) C h hw.1 dX1_setNeeds_31 (fun z3 ez3 H locs h => ?_)
  have hw := hw.2 z3 ez3
  refine lv_aload_n (pc := 32) C.1 C.2.1 dX1_setNeeds_32 rfl (lv_at hl 0 rfl) ?_
  refine GX_X1_24_13 (pc := 33) C h dX1_setNeeds_33 ?_
  refine lv_iload_n (pc := 36) C.1 C.2.1 dX1_setNeeds_36 rfl (lv_at hl 1 rfl) ?_
  refine lv_iconst (v := 4) (pc := 37) C.1 C.2.1 dX1_setNeeds_37 (by decide) ?_
  refine lv_imul (pc := 38) C.1 C.2.1 dX1_setNeeds_38 ?_
  refine lv_iconst (v := 3) (pc := 39) C.1 C.2.1 dX1_setNeeds_39 (by decide) ?_
  refine lv_iadd (pc := 40) C.1 C.2.1 dX1_setNeeds_40 ?_
  refine lv_iload (pc := 41) C.1 C.2.1 dX1_setNeeds_41 (lv_at hl 5 rfl) ?_
  refine stX_18 (pc := 43) C h hw.1 dX1_setNeeds_43 (fun z4 ez4 H locs h => ?_)
  have hw := hw.2 z4 ez4
  exact rt_v (pc := 44) C hr hlk h hw dX1_setNeeds_44
