def wp_X9_in (b1 : Int64) (b2 : Int64) (b3 : Int64) (z : St) (P : Int32 → Prop) : Prop :=
  ((((lg_cmp b1 b2) < 0) → P ((0 : Int32))) ∧ (¬ ((lg_cmp b1 b2) < 0) → (((0 < (lg_cmp b1 b3)) → P ((0 : Int32))) ∧ (¬ (0 < (lg_cmp b1 b3)) → P ((1 : Int32))))))
set_option maxHeartbeats 4000000 in
set_option maxRecDepth 100000 in
theorem m_X9_in (l : Launch) (D : va_G) (t : Ty3) (a : Nat → Nat) (b1 : Int64) (b2 : Int64) (b3 : Int64) (z : St) (P : Int32 → Prop) (hw : wp_X9_in b1 b2 b3 z P) : CtI l D t yX9_in cX9_in 6 (some .boolean) 0 (wM t a) (wM t a z) [.long b1, .long b2, .long b3] (fun rr zz => zz = z ∧ P rr) := by
  refine ctI_of (by decide) (Nat.le_of_ble_eq_true rfl) ?_
  intro p e s m args below meth c A ls C hr hlk h hl
  have hl : lv_has ls 6 [(0, .long b1), (2, .long b2), (4, .long b3)] := hl
  unfold wp_X9_in at hw
  refine lv_lload_n (pc := 0) C.1 C.2.1 dX9_in_0 rfl (lv_at hl 0 rfl) ?_
  refine lv_lload_n (pc := 1) C.1 C.2.1 dX9_in_1 rfl (lv_at hl 1 rfl) ?_
  refine W.lcmp (pc := 2) C.1 C.2.1 dX9_in_2 ?_
  refine lv_if_lt (tgt := 17) (pc := 3) C.1 C.2.1 dX9_in_3 (by decide) (fun c1 => ?_) (fun c1 => ?_)
  · have hw := hw.1 c1
    refine lv_iconst (v := 0) (pc := 17) C.1 C.2.1 dX9_in_17 (by decide) ?_
    exact rt_z (pc := 18) C hr hlk h (Or.inl rfl) ⟨rfl, hw⟩ dX9_in_18
  · have hw := hw.2 c1
    refine lv_lload_n (pc := 6) C.1 C.2.1 dX9_in_6 rfl (lv_at hl 0 rfl) ?_
    refine lv_lload (pc := 7) C.1 C.2.1 dX9_in_7 (lv_at hl 2 rfl) ?_
    refine W.lcmp (pc := 9) C.1 C.2.1 dX9_in_9 ?_
    refine lv_if_gt (tgt := 17) (pc := 10) C.1 C.2.1 dX9_in_10 (by decide) (fun c2 => ?_) (fun c2 => ?_)
    · have hw := hw.1 c2
      refine lv_iconst (v := 0) (pc := 17) C.1 C.2.1 dX9_in_17 (by decide) ?_
      exact rt_z (pc := 18) C hr hlk h (Or.inl rfl) ⟨rfl, hw⟩ dX9_in_18
    · have hw := hw.2 c2
      refine lv_iconst (v := 1) (pc := 13) C.1 C.2.1 dX9_in_13 (by decide) ?_
      refine lv_goto (tgt := 18) (pc := 14) C.1 C.2.1 dX9_in_14 (by decide) ?_
      exact rt_z (pc := 18) C hr hlk h (Or.inr rfl) ⟨rfl, hw⟩ dX9_in_18

def wp_X9_isHour (b1 : Int32) (z : St) (P : Int32 → Prop) : Prop :=
  (wp_X9_in (Int32.toInt64 b1) ((0 : Int64)) ((167 : Int64)) z (fun r2 => ((r2 = 0 ∨ r2 = 1) ∧ P r2)))
set_option maxHeartbeats 4000000 in
set_option maxRecDepth 100000 in
theorem m_X9_isHour (l : Launch) (D : va_G) (t : Ty3) (a : Nat → Nat) (b1 : Int32) (z : St) (P : Int32 → Prop) (hw : wp_X9_isHour b1 z P) : CtI l D t yX9_isHour cX9_isHour 1 (some .boolean) 1 (wM t a) (wM t a z) [.int b1] (fun rr zz => zz = z ∧ P rr) := by
  refine ctI_of (by decide) (Nat.le_of_ble_eq_true rfl) ?_
  intro p e s m args below meth c A ls C hr hlk h hl
  have hl : lv_has ls 1 [(0, .int b1)] := hl
  unfold wp_X9_isHour at hw
  refine lv_iload_n (pc := 0) C.1 C.2.1 dX9_isHour_0 rfl (lv_at hl 0 rfl) ?_
  refine lv_i2l (pc := 1) C.1 C.2.1 dX9_isHour_1 rfl ?_
  refine lv_lconst (v := 0) (pc := 2) C.1 C.2.1 dX9_isHour_2 (by decide) ?_
  refine lv_ldc2 (pc := 3) C.1 C.2.1 C.2.2.2.1 (C.2.2.2.2 _ lc_X9_137) dX9_isHour_3 ?_
  refine cl_si (pc := 6) (As := [.long (Int32.toInt64 b1), .long ((0 : Int64)), .long ((167 : Int64))]) (rest := []) C h (m_X9_in l D t a (Int32.toInt64 b1) ((0 : Int64)) ((167 : Int64)) z _ hw) mw_X9_in lm_X9_139 md_X9_in ⟨by decide, by decide⟩ ⟨Nat.zero_le _, Nat.zero_le _⟩ hl.1 rfl (Nat.le_of_ble_eq_true rfl) dX9_isHour_6 (fun r2 z1 H locs hw h => ?_)
  rw [hw.1] at h
  have hw := hw.2
  exact rt_z (pc := 9) C hr hlk h hw.1 ⟨rfl, hw.2⟩ dX9_isHour_9

def wp_X9_told (b1 : Int32) (z : St) (P : Int32 → St → Prop) : Prop :=
  (((0 ≤ b1) → (∀ z2 : St, z2 = wI z 1 ((0 : Int32)) → P b1 z2)) ∧ (¬ (0 ≤ b1) → (∀ z3 : St, z3 = wI z 1 b1 → P b1 z3)))
set_option maxHeartbeats 4000000 in
set_option maxRecDepth 100000 in
theorem m_X9_told (l : Launch) (D : va_G) (t : Ty3) (a : Nat → Nat) (b1 : Int32) (z : St) (P : Int32 → St → Prop) (hw : wp_X9_told b1 z P) : CtI l D t yX9_told cX9_told 2 (some .int) 0 (wM t a) (wM t a z) [.ref (a 0), .int b1] P := by
  refine ctI_of (by decide) (Nat.le_of_ble_eq_true rfl) ?_
  intro p e s m args below meth c A ls C hr hlk h hl
  have hl : lv_has ls 2 [(0, .ref (a 0)), (1, .int b1)] := hl
  unfold wp_X9_told at hw
  refine lv_aload_n (pc := 0) C.1 C.2.1 dX9_told_0 rfl (lv_at hl 0 rfl) ?_
  refine lv_iload_n (pc := 1) C.1 C.2.1 dX9_told_1 rfl (lv_at hl 1 rfl) ?_
  refine lv_if_ge (tgt := 9) (pc := 2) C.1 C.2.1 dX9_told_2 (by decide) (fun c1 => ?_) (fun c1 => ?_)
  · have hw := hw.1 c1
    refine lv_iconst (v := 0) (pc := 9) C.1 C.2.1 dX9_told_9 (by decide) ?_
    refine PM_X9_134_0 (pc := 10) C h dX9_told_10 (fun z2 ez2 H locs h => ?_)
    have hw := hw z2 ez2
    refine lv_iload_n (pc := 13) C.1 C.2.1 dX9_told_13 rfl (lv_at hl 1 rfl) ?_
    exact rt_i (pc := 14) C hr hlk h hw dX9_told_14
  · have hw := hw.2 c1
    refine lv_iload_n (pc := 5) C.1 C.2.1 dX9_told_5 rfl (lv_at hl 1 rfl) ?_
    refine lv_goto (tgt := 10) (pc := 6) C.1 C.2.1 dX9_told_6 (by decide) ?_
    refine PM_X9_134_0 (pc := 10) C h dX9_told_10 (fun z3 ez3 H locs h => ?_)
    have hw := hw z3 ez3
    refine lv_iload_n (pc := 13) C.1 C.2.1 dX9_told_13 rfl (lv_at hl 1 rfl) ?_
    exact rt_i (pc := 14) C hr hlk h hw dX9_told_14

def wp_X9_isKnown (b1 : Int32) (z : St) (P : Int32 → Prop) : Prop :=
  (wp_X9_in (Int32.toInt64 b1) ((0 : Int64)) ((1000 : Int64)) z (fun r2 => ((r2 = 0 ∨ r2 = 1) ∧ P r2)))
set_option maxHeartbeats 4000000 in
set_option maxRecDepth 100000 in
theorem m_X9_isKnown (l : Launch) (D : va_G) (t : Ty3) (a : Nat → Nat) (b1 : Int32) (z : St) (P : Int32 → Prop) (hw : wp_X9_isKnown b1 z P) : CtI l D t yX9_isKnown cX9_isKnown 1 (some .boolean) 1 (wM t a) (wM t a z) [.int b1] (fun rr zz => zz = z ∧ P rr) := by
  refine ctI_of (by decide) (Nat.le_of_ble_eq_true rfl) ?_
  intro p e s m args below meth c A ls C hr hlk h hl
  have hl : lv_has ls 1 [(0, .int b1)] := hl
  unfold wp_X9_isKnown at hw
  refine lv_iload_n (pc := 0) C.1 C.2.1 dX9_isKnown_0 rfl (lv_at hl 0 rfl) ?_
  refine lv_i2l (pc := 1) C.1 C.2.1 dX9_isKnown_1 rfl ?_
  refine lv_lconst (v := 0) (pc := 2) C.1 C.2.1 dX9_isKnown_2 (by decide) ?_
  refine lv_ldc2 (pc := 3) C.1 C.2.1 C.2.2.2.1 (C.2.2.2.2 _ lc_X9_143) dX9_isKnown_3 ?_
  refine cl_si (pc := 6) (As := [.long (Int32.toInt64 b1), .long ((0 : Int64)), .long ((1000 : Int64))]) (rest := []) C h (m_X9_in l D t a (Int32.toInt64 b1) ((0 : Int64)) ((1000 : Int64)) z _ hw) mw_X9_in lm_X9_139 md_X9_in ⟨by decide, by decide⟩ ⟨Nat.zero_le _, Nat.zero_le _⟩ hl.1 rfl (Nat.le_of_ble_eq_true rfl) dX9_isKnown_6 (fun r2 z1 H locs hw h => ?_)
  rw [hw.1] at h
  have hw := hw.2
  exact rt_z (pc := 9) C hr hlk h hw.1 ⟨rfl, hw.2⟩ dX9_isKnown_9

def wp_X9_price (b1 : Int32) (b2 : Int32) (b3 : Int32) (z : St) (P : Int32 → St → Prop) : Prop :=
  (∀ z1 : St, z1 = wI z 0 ((0 : Int32)) → (wp_X9_isHour b1 z1 (fun r3 => (∀ K4 : Prop, ((wp_X9_told ((-1 : Int32)) z1 (fun r6 z5 => P r6 z5)) → K4) → (((r3 = 0) → K4) ∧ (¬ (r3 = 0) → (wp_X9_in (Int32.toInt64 b2) ((-1000 : Int64)) ((10000 : Int64)) z1 (fun r9 => (((r9 = 0) → K4) ∧ (¬ (r9 = 0) → (wp_X9_isKnown b3 z1 (fun r12 => (((¬ r12 = 0) → (((¬ (gI z1 3) = ((400 : Int32))) → (vp_in (gI z1 3) 400 ∧ (∀ z15 : St, z15 = wR z1 1 (upd (gF z1 1) (gI z1 3).toNatClampNeg b1) → (vp_in (gI z15 3) 400 ∧ (∀ z16 : St, z16 = wR z15 2 (upd (gF z15 2) (gI z15 3).toNatClampNeg b2) → (vp_in (gI z16 3) 400 ∧ (∀ z17 : St, z17 = wR z16 3 (upd (gF z16 3) (gI z16 3).toNatClampNeg b3) → (∀ z18 : St, z18 = wI z17 3 ((gI z17 3) + ((1 : Int32))) → (∀ z19 : St, z19 = wI z18 21 ((0 : Int32)) → (wp_X9_told (gI z19 3) z19 (fun r21 z20 => P r21 z20))))))))))) ∧ ((gI z1 3) = ((400 : Int32)) → (wp_X9_told ((-5 : Int32)) z1 (fun r23 z22 => P r23 z22))))) ∧ (r12 = 0 → K4))))))))))))))
set_option maxHeartbeats 4000000 in
set_option maxRecDepth 100000 in
theorem m_X9_price (l : Launch) (D : va_G) (t : Ty3) (a : Nat → Nat) (b1 : Int32) (b2 : Int32) (b3 : Int32) (z : St) (P : Int32 → St → Prop) (hw : wp_X9_price b1 b2 b3 z P) : CtI l D t yX9_price cX9_price 4 (some .int) 2 (wM t a) (wM t a z) [.ref (a 0), .int b1, .int b2, .int b3] P := by
  refine ctI_of (by decide) (Nat.le_of_ble_eq_true rfl) ?_
  intro p e s m args below meth c A ls C hr hlk h hl
  have hl : lv_has ls 4 [(0, .ref (a 0)), (1, .int b1), (2, .int b2), (3, .int b3)] := hl
  unfold wp_X9_price at hw
  refine lv_aload_n (pc := 0) C.1 C.2.1 dX9_price_0 rfl (lv_at hl 0 rfl) ?_
  refine lv_iconst (v := 0) (pc := 1) C.1 C.2.1 dX9_price_1 (by decide) ?_
  refine PM_X9_131_0 (pc := 2) C h dX9_price_2 (fun z1 ez1 H locs h => ?_)
  have hw := hw z1 ez1
  refine lv_iload_n (pc := 5) C.1 C.2.1 dX9_price_5 rfl (lv_at hl 1 rfl) ?_
  refine cl_si (pc := 6) (As := [.int b1]) (rest := []) C h (m_X9_isHour l D t a b1 z1 _ hw) mw_X9_isHour lm_X9_151 md_X9_isHour ⟨by decide, by decide⟩ ⟨Nat.zero_le _, Nat.zero_le _⟩ hl.1 rfl (Nat.le_of_ble_eq_true rfl) dX9_price_6 (fun r3 z2 H locs hw h => ?_)
  rw [hw.1] at h
  have hw := hw.2
  have hw := hw (∀ (H : Heap) (locs : List Loc) (ls : Array Slot), wd D t A s (wM t a z1) H locs → lv_has ls 4 [(0, .ref (a 0))] → W p l e (rmd 2) s m args below meth c H locs 0 0 (QI D t A (wM t a) P below args s) (F0 m 33 ls [])) (by
      intro hw H locs ls h hl
      refine lv_aload_n (pc := 33) C.1 C.2.1 dX9_price_33 rfl (lv_at hl 0 rfl) ?_
      refine lv_iconst (v := -1) (pc := 34) C.1 C.2.1 dX9_price_34 (by decide) ?_
      refine cl_vi (pc := 35) (As := [.int ((-1 : Int32))]) (rest := []) C h (m_X9_told l D t a ((-1 : Int32)) z1 _ hw) mw_X9_told lm_X9_162 md_X9_told rcM_0 ⟨by decide, by decide⟩ ⟨Nat.zero_le _, Nat.zero_le _⟩ hl.1 rfl (Nat.le_of_ble_eq_true rfl) dX9_price_35 (fun r6 z5 H locs hw h => ?_)
      exact rt_i (pc := 38) C hr hlk h hw dX9_price_38)
  refine lv_if_eq (tgt := 33) (pc := 9) C.1 C.2.1 dX9_price_9 (by decide) (fun c7 => ?_) (fun c7 => ?_)
  · have hw := hw.1 c7
    exact hw _ _ _ h (lv_sub hl [0] rfl)
  · have hw := hw.2 c7
    refine lv_iload_n (pc := 12) C.1 C.2.1 dX9_price_12 rfl (lv_at hl 2 rfl) ?_
    refine lv_i2l (pc := 13) C.1 C.2.1 dX9_price_13 rfl ?_
    refine lv_ldc2 (pc := 14) C.1 C.2.1 C.2.2.2.1 (C.2.2.2.2 _ lc_X9_155) dX9_price_14 ?_
    refine lv_ldc2 (pc := 17) C.1 C.2.1 C.2.2.2.1 (C.2.2.2.2 _ lc_X9_157) dX9_price_17 ?_
    refine cl_si (pc := 20) (As := [.long (Int32.toInt64 b2), .long ((-1000 : Int64)), .long ((10000 : Int64))]) (rest := []) C h (m_X9_in l D t a (Int32.toInt64 b2) ((-1000 : Int64)) ((10000 : Int64)) z1 _ hw) mw_X9_in lm_X9_139 md_X9_in ⟨by decide, by decide⟩ ⟨Nat.zero_le _, Nat.zero_le _⟩ hl.1 rfl (Nat.le_of_ble_eq_true rfl) dX9_price_20 (fun r9 z8 H locs hw h => ?_)
    rw [hw.1] at h
    have hw := hw.2
    refine lv_if_eq (tgt := 33) (pc := 23) C.1 C.2.1 dX9_price_23 (by decide) (fun c10 => ?_) (fun c10 => ?_)
    · have hw := hw.1 c10
      exact hw _ _ _ h (lv_sub hl [0] rfl)
    · have hw := hw.2 c10
      refine lv_iload_n (pc := 26) C.1 C.2.1 dX9_price_26 rfl (lv_at hl 3 rfl) ?_
      refine cl_si (pc := 27) (As := [.int b3]) (rest := []) C h (m_X9_isKnown l D t a b3 z1 _ hw) mw_X9_isKnown lm_X9_159 md_X9_isKnown ⟨by decide, by decide⟩ ⟨Nat.zero_le _, Nat.zero_le _⟩ hl.1 rfl (Nat.le_of_ble_eq_true rfl) dX9_price_27 (fun r12 z11 H locs hw h => ?_)
      rw [hw.1] at h
      have hw := hw.2
      refine lv_if_ne (tgt := 39) (pc := 30) C.1 C.2.1 dX9_price_30 (by decide) (fun c13 => ?_) (fun c13 => ?_)
      · have hw := hw.1 c13
        refine lv_aload_n (pc := 39) C.1 C.2.1 dX9_price_39 rfl (lv_at hl 0 rfl) ?_
        refine GM_X9_166_0 (pc := 40) C h dX9_price_40 ?_
        refine lv_sipush (v := 400) (pc := 43) C.1 C.2.1 dX9_price_43 (by decide) ?_
        refine lv_icmp_ne (tgt := 56) (pc := 46) C.1 C.2.1 dX9_price_46 (by decide) (fun c14 => ?_) (fun c14 => ?_)
        · have hw := hw.1 c14
          refine lv_aload_n (pc := 56) C.1 C.2.1 dX9_price_56 rfl (lv_at hl 0 rfl) ?_
          refine GM_X9_7_0 (pc := 57) C h dX9_price_57 ?_
          refine lv_aload_n (pc := 60) C.1 C.2.1 dX9_price_60 rfl (lv_at hl 0 rfl) ?_
          refine GM_X9_166_0 (pc := 61) C h dX9_price_61 ?_
          refine lv_iload_n (pc := 64) C.1 C.2.1 dX9_price_64 rfl (lv_at hl 1 rfl) ?_
          refine stM_1 (pc := 65) C h hw.1 dX9_price_65 (fun z15 ez15 H locs h => ?_)
          have hw := hw.2 z15 ez15
          refine lv_aload_n (pc := 66) C.1 C.2.1 dX9_price_66 rfl (lv_at hl 0 rfl) ?_
          refine GM_X9_13_0 (pc := 67) C h dX9_price_67 ?_
          refine lv_aload_n (pc := 70) C.1 C.2.1 dX9_price_70 rfl (lv_at hl 0 rfl) ?_
          refine GM_X9_166_0 (pc := 71) C h dX9_price_71 ?_
          refine lv_iload_n (pc := 74) C.1 C.2.1 dX9_price_74 rfl (lv_at hl 2 rfl) ?_
          refine stM_2 (pc := 75) C h hw.1 dX9_price_75 (fun z16 ez16 H locs h => ?_)
          have hw := hw.2 z16 ez16
          refine lv_aload_n (pc := 76) C.1 C.2.1 dX9_price_76 rfl (lv_at hl 0 rfl) ?_
          refine GM_X9_16_0 (pc := 77) C h dX9_price_77 ?_
          refine lv_aload_n (pc := 80) C.1 C.2.1 dX9_price_80 rfl (lv_at hl 0 rfl) ?_
          refine GM_X9_166_0 (pc := 81) C h dX9_price_81 ?_
          refine lv_iload_n (pc := 84) C.1 C.2.1 dX9_price_84 rfl (lv_at hl 3 rfl) ?_
          refine stM_3 (pc := 85) C h hw.1 dX9_price_85 (fun z17 ez17 H locs h => ?_)
          have hw := hw.2 z17 ez17
          refine lv_aload_n (pc := 86) C.1 C.2.1 dX9_price_86 rfl (lv_at hl 0 rfl) ?_
          refine lv_dup (pc := 87) C.1 C.2.1 dX9_price_87 rfl ?_
          refine GM_X9_166_0 (pc := 88) C h dX9_price_88 ?_
          refine lv_iconst (v := 1) (pc := 91) C.1 C.2.1 dX9_price_91 (by decide) ?_
          refine lv_iadd (pc := 92) C.1 C.2.1 dX9_price_92 ?_
          refine PM_X9_166_0 (pc := 93) C h dX9_price_93 (fun z18 ez18 H locs h => ?_)
          have hw := hw z18 ez18
          refine lv_aload_n (pc := 96) C.1 C.2.1 dX9_price_96 rfl (lv_at hl 0 rfl) ?_
          refine lv_iconst (v := 0) (pc := 97) C.1 C.2.1 dX9_price_97 (by decide) ?_
          refine PM_X9_169_0 (pc := 98) C h (Or.inl rfl) dX9_price_98 (fun z19 ez19 H locs h => ?_)
          have hw := hw z19 ez19
          refine lv_aload_n (pc := 101) C.1 C.2.1 dX9_price_101 rfl (lv_at hl 0 rfl) ?_
          refine lv_aload_n (pc := 102) C.1 C.2.1 dX9_price_102 rfl (lv_at hl 0 rfl) ?_
          refine GM_X9_166_0 (pc := 103) C h dX9_price_103 ?_
          refine cl_vi (pc := 106) (As := [.int (gI z19 3)]) (rest := []) C h (m_X9_told l D t a (gI z19 3) z19 _ hw) mw_X9_told lm_X9_162 md_X9_told rcM_0 ⟨by decide, by decide⟩ ⟨Nat.zero_le _, Nat.zero_le _⟩ hl.1 rfl (Nat.le_of_ble_eq_true rfl) dX9_price_106 (fun r21 z20 H locs hw h => ?_)
          exact rt_i (pc := 109) C hr hlk h hw dX9_price_109
        · have hw := hw.2 c14
          refine lv_aload_n (pc := 49) C.1 C.2.1 dX9_price_49 rfl (lv_at hl 0 rfl) ?_
          refine lv_bipush (v := -5) (pc := 50) C.1 C.2.1 dX9_price_50 (by decide) ?_
          refine cl_vi (pc := 52) (As := [.int ((-5 : Int32))]) (rest := []) C h (m_X9_told l D t a ((-5 : Int32)) z1 _ hw) mw_X9_told lm_X9_162 md_X9_told rcM_0 ⟨by decide, by decide⟩ ⟨Nat.zero_le _, Nat.zero_le _⟩ hl.1 rfl (Nat.le_of_ble_eq_true rfl) dX9_price_52 (fun r23 z22 H locs hw h => ?_)
          exact rt_i (pc := 55) C hr hlk h hw dX9_price_55
      · have hw := hw.2 c13
        exact hw _ _ _ h (lv_sub hl [0] rfl)

def wp_X9_plain (b1 : Int32) (z : St) (P : Int32 → St → Prop) : Prop :=
  (∀ z1 : St, z1 = wI z 0 ((0 : Int32)) → (wp_X9_in (Int32.toInt64 b1) ((-1000 : Int64)) ((10000 : Int64)) z1 (fun r3 => (((¬ r3 = 0) → (∀ x5 : Int32, x5 = gI z1 7 → (∀ z6 : St, z6 = wI z1 7 b1 → (∀ z7 : St, z7 = wI z6 21 ((0 : Int32)) → (∀ z8 : St, z8 = wI z7 1 ((0 : Int32)) → P x5 z8))))) ∧ (r3 = 0 → (∀ z9 : St, z9 = wI z1 1 ((-1 : Int32)) → P ((-5000 : Int32)) z9))))))
set_option maxHeartbeats 4000000 in
set_option maxRecDepth 100000 in
theorem m_X9_plain (l : Launch) (D : va_G) (t : Ty3) (a : Nat → Nat) (b1 : Int32) (z : St) (P : Int32 → St → Prop) (hw : wp_X9_plain b1 z P) : CtI l D t yX9_plain cX9_plain 3 (some .int) 1 (wM t a) (wM t a z) [.ref (a 0), .int b1] P := by
  refine ctI_of (by decide) (Nat.le_of_ble_eq_true rfl) ?_
  intro p e s m args below meth c A ls C hr hlk h hl
  have hl : lv_has ls 3 [(0, .ref (a 0)), (1, .int b1)] := hl
  unfold wp_X9_plain at hw
  refine lv_aload_n (pc := 0) C.1 C.2.1 dX9_plain_0 rfl (lv_at hl 0 rfl) ?_
  refine lv_iconst (v := 0) (pc := 1) C.1 C.2.1 dX9_plain_1 (by decide) ?_
  refine PM_X9_131_0 (pc := 2) C h dX9_plain_2 (fun z1 ez1 H locs h => ?_)
  have hw := hw z1 ez1
  refine lv_iload_n (pc := 5) C.1 C.2.1 dX9_plain_5 rfl (lv_at hl 1 rfl) ?_
  refine lv_i2l (pc := 6) C.1 C.2.1 dX9_plain_6 rfl ?_
  refine lv_ldc2 (pc := 7) C.1 C.2.1 C.2.2.2.1 (C.2.2.2.2 _ lc_X9_155) dX9_plain_7 ?_
  refine lv_ldc2 (pc := 10) C.1 C.2.1 C.2.2.2.1 (C.2.2.2.2 _ lc_X9_157) dX9_plain_10 ?_
  refine cl_si (pc := 13) (As := [.long (Int32.toInt64 b1), .long ((-1000 : Int64)), .long ((10000 : Int64))]) (rest := []) C h (m_X9_in l D t a (Int32.toInt64 b1) ((-1000 : Int64)) ((10000 : Int64)) z1 _ hw) mw_X9_in lm_X9_139 md_X9_in ⟨by decide, by decide⟩ ⟨Nat.zero_le _, Nat.zero_le _⟩ hl.1 rfl (Nat.le_of_ble_eq_true rfl) dX9_plain_13 (fun r3 z2 H locs hw h => ?_)
  rw [hw.1] at h
  have hw := hw.2
  refine lv_if_ne (tgt := 28) (pc := 16) C.1 C.2.1 dX9_plain_16 (by decide) (fun c4 => ?_) (fun c4 => ?_)
  · have hw := hw.1 c4
    refine lv_aload_n (pc := 28) C.1 C.2.1 dX9_plain_28 rfl (lv_at hl 0 rfl) ?_
    refine GM_X9_19_0 (pc := 29) C h dX9_plain_29 ?_
    refine lv_topi (fun x5 ex5 => ?_)
    have hw := hw x5 ex5
    refine lv_istore_n (lv' := [(2, .int x5), (0, .ref (a 0)), (1, .int b1)]) (pc := 32) C.1 C.2.1 dX9_plain_32 rfl hl (by decide) rfl (fun ls hl => ?_)
    refine lv_aload_n (pc := 33) C.1 C.2.1 dX9_plain_33 rfl (lv_at hl 1 rfl) ?_
    refine lv_iload_n (pc := 34) C.1 C.2.1 dX9_plain_34 rfl (lv_at hl 2 rfl) ?_
    refine PM_X9_19_0 (pc := 35) C h dX9_plain_35 (fun z6 ez6 H locs h => ?_)
    have hw := hw z6 ez6
    refine lv_aload_n (pc := 38) C.1 C.2.1 dX9_plain_38 rfl (lv_at hl 1 rfl) ?_
    refine lv_iconst (v := 0) (pc := 39) C.1 C.2.1 dX9_plain_39 (by decide) ?_
    refine PM_X9_169_0 (pc := 40) C h (Or.inl rfl) dX9_plain_40 (fun z7 ez7 H locs h => ?_)
    have hw := hw z7 ez7
    refine lv_aload_n (pc := 43) C.1 C.2.1 dX9_plain_43 rfl (lv_at hl 1 rfl) ?_
    refine lv_iconst (v := 0) (pc := 44) C.1 C.2.1 dX9_plain_44 (by decide) ?_
    refine PM_X9_134_0 (pc := 45) C h dX9_plain_45 (fun z8 ez8 H locs h => ?_)
    have hw := hw z8 ez8
    refine lv_iload_n (pc := 48) C.1 C.2.1 dX9_plain_48 rfl (lv_at hl 0 rfl) ?_
    exact rt_i (pc := 49) C hr hlk h hw dX9_plain_49
  · have hw := hw.2 c4
    refine lv_aload_n (pc := 19) C.1 C.2.1 dX9_plain_19 rfl (lv_at hl 0 rfl) ?_
    refine lv_iconst (v := -1) (pc := 20) C.1 C.2.1 dX9_plain_20 (by decide) ?_
    refine PM_X9_134_0 (pc := 21) C h dX9_plain_21 (fun z9 ez9 H locs h => ?_)
    have hw := hw z9 ez9
    refine lv_sipush (v := -5000) (pc := 24) C.1 C.2.1 dX9_plain_24 (by decide) ?_
    exact rt_i (pc := 27) C hr hlk h hw dX9_plain_27

def wp_X9_priceOf (b1 : Int32) (b2 : Int32) (z : St) (P : Int32 → Prop) : Prop :=
  (∀ x1 : Int32, x1 = gI z 7 → (∀ K4 : Int32 → Int32 → Prop, (∀ (v2 : Int32) (v3 : Int32), ((((gI z 3) ≤ v3) → P v2) ∧ (¬ ((gI z 3) ≤ v3) → (vp_in v3 400 ∧ (∀ K7 : Int32 → Prop, (∀ (s6 : Int32), (∀ x8 : Int32, x8 = v3 + (1) → K4 s6 x8) → K7 s6) → (∀ K9 : Prop, (K7 v2 → K9) → (((¬ (gF z 1 v3.toNatClampNeg) = b1) → K9) ∧ ((gF z 1 v3.toNatClampNeg) = b1 → (vp_in v3 400 ∧ (((b2 < (gF z 3 v3.toNatClampNeg)) → K9) ∧ (¬ (b2 < (gF z 3 v3.toNatClampNeg)) → (vp_in v3 400 ∧ K7 (gF z 2 v3.toNatClampNeg)))))))))))) → K4 v2 v3) → K4 x1 ((0 : Int32))))
set_option maxHeartbeats 4000000 in
set_option maxRecDepth 100000 in
theorem m_X9_priceOf (l : Launch) (D : va_G) (t : Ty3) (a : Nat → Nat) (b1 : Int32) (b2 : Int32) (z : St) (P : Int32 → Prop) (hw : wp_X9_priceOf b1 b2 z P) : CtI l D t yX9_priceOf cX9_priceOf 5 (some .int) 0 (wM t a) (wM t a z) [.ref (a 0), .int b1, .int b2] (fun rr zz => zz = z ∧ P rr) := by
  refine ctI_of (by decide) (Nat.le_of_ble_eq_true rfl) ?_
  intro p e s m args below meth c A ls C hr hlk h hl
  have hl : lv_has ls 5 [(0, .ref (a 0)), (1, .int b1), (2, .int b2)] := hl
  unfold wp_X9_priceOf at hw
  refine lv_aload_n (pc := 0) C.1 C.2.1 dX9_priceOf_0 rfl (lv_at hl 0 rfl) ?_
  refine GM_X9_19_0 (pc := 1) C h dX9_priceOf_1 ?_
  refine lv_topi (fun x1 ex1 => ?_)
  have hw := hw x1 ex1
  refine lv_istore_n (lv' := [(3, .int x1), (0, .ref (a 0)), (1, .int b1), (2, .int b2)]) (pc := 4) C.1 C.2.1 dX9_priceOf_4 rfl hl (by decide) rfl (fun ls hl => ?_)
  refine lv_iconst (v := 0) (pc := 5) C.1 C.2.1 dX9_priceOf_5 (by decide) ?_
  have hw := hw (fun (v2 : Int32) (v3 : Int32) => ∀ (H : Heap) (locs : List Loc) (ls : Array Slot), wd D t A s (wM t a z) H locs → lv_has ls 5 [(0, .ref (a 0)), (1, .int b1), (2, .int b2), (3, .int v2), (4, .int v3)] → W p l e (rmd 0) s m args below meth c H locs 0 0 (QI D t A (wM t a) (fun rr zz => zz = z ∧ P rr) below args s) (F0 m 8 ls [])) (by
      intro v2 v3 hw H locs ls h hl
      refine lv_iload (pc := 8) C.1 C.2.1 dX9_priceOf_8 (lv_at hl 4 rfl) ?_
      refine lv_aload_n (pc := 10) C.1 C.2.1 dX9_priceOf_10 rfl (lv_at hl 0 rfl) ?_
      refine GM_X9_166_0 (pc := 11) C h dX9_priceOf_11 ?_
      refine lv_icmp_ge (tgt := 57) (pc := 14) C.1 C.2.1 dX9_priceOf_14 (by decide) (fun c5 => ?_) (fun c5 => ?_)
      · have hw := hw.1 c5
        refine lv_iload_n (pc := 57) C.1 C.2.1 dX9_priceOf_57 rfl (lv_at hl 3 rfl) ?_
        exact rt_i (pc := 58) C hr hlk h ⟨rfl, hw⟩ dX9_priceOf_58
      · have hw := hw.2 c5
        refine lv_aload_n (pc := 17) C.1 C.2.1 dX9_priceOf_17 rfl (lv_at hl 0 rfl) ?_
        refine GM_X9_7_0 (pc := 18) C h dX9_priceOf_18 ?_
        refine lv_iload (pc := 21) C.1 C.2.1 dX9_priceOf_21 (lv_at hl 4 rfl) ?_
        refine ldM_1 (pc := 23) C h hw.1 dX9_priceOf_23 ?_
        have hw := hw.2
        refine lv_iload_n (pc := 24) C.1 C.2.1 dX9_priceOf_24 rfl (lv_at hl 1 rfl) ?_
        have hw := hw (fun (s6 : Int32) => ∀ (H : Heap) (locs : List Loc) (ls : Array Slot), wd D t A s (wM t a z) H locs → lv_has ls 5 [(0, .ref (a 0)), (1, .int b1), (2, .int b2), (4, .int v3)] → W p l e (rmd 0) s m args below meth c H locs 0 0 (QI D t A (wM t a) (fun rr zz => zz = z ∧ P rr) below args s) (F0 m 50 ls [.int s6])) (by
            intro s6 hw H locs ls h hl
            refine lv_istore_n (lv' := [(3, .int s6), (0, .ref (a 0)), (1, .int b1), (2, .int b2), (4, .int v3)]) (pc := 50) C.1 C.2.1 dX9_priceOf_50 rfl hl (by decide) rfl (fun ls hl => ?_)
            obtain ⟨x8, ex8⟩ : ∃ y : Int32, y = v3 + (1) := ⟨_, rfl⟩
            have hw := hw x8 ex8
            refine lv_iinc (v := x8) (lv' := [(4, .int x8), (3, .int s6), (0, .ref (a 0)), (1, .int b1), (2, .int b2)]) (pc := 51) C.1 C.2.1 dX9_priceOf_51 hl (k := 4) rfl (by rw [ex8]; rfl) (by decide) rfl (fun ls hl => ?_)
            refine lv_goto (tgt := 8) (pc := 54) C.1 C.2.1 dX9_priceOf_54 (by decide) ?_
            exact hw _ _ _ h (lv_sub hl [2, 3, 4, 1, 0] rfl))
        have hw := hw (∀ (H : Heap) (locs : List Loc) (ls : Array Slot), wd D t A s (wM t a z) H locs → lv_has ls 5 [(0, .ref (a 0)), (1, .int b1), (2, .int b2), (3, .int v2), (4, .int v3)] → W p l e (rmd 0) s m args below meth c H locs 0 0 (QI D t A (wM t a) (fun rr zz => zz = z ∧ P rr) below args s) (F0 m 49 ls [])) (by
            intro hw H locs ls h hl
            refine lv_iload_n (pc := 49) C.1 C.2.1 dX9_priceOf_49 rfl (lv_at hl 3 rfl) ?_
            exact hw _ _ _ h (lv_sub hl [0, 1, 2, 4] rfl))
        refine lv_icmp_ne (tgt := 49) (pc := 25) C.1 C.2.1 dX9_priceOf_25 (by decide) (fun c10 => ?_) (fun c10 => ?_)
        · have hw := hw.1 c10
          exact hw _ _ _ h (lv_sub hl [0, 1, 2, 3, 4] rfl)
        · have hw := hw.2 c10
          refine lv_aload_n (pc := 28) C.1 C.2.1 dX9_priceOf_28 rfl (lv_at hl 0 rfl) ?_
          refine GM_X9_16_0 (pc := 29) C h dX9_priceOf_29 ?_
          refine lv_iload (pc := 32) C.1 C.2.1 dX9_priceOf_32 (lv_at hl 4 rfl) ?_
          refine ldM_3 (pc := 34) C h hw.1 dX9_priceOf_34 ?_
          have hw := hw.2
          refine lv_iload_n (pc := 35) C.1 C.2.1 dX9_priceOf_35 rfl (lv_at hl 2 rfl) ?_
          refine lv_icmp_gt (tgt := 49) (pc := 36) C.1 C.2.1 dX9_priceOf_36 (by decide) (fun c11 => ?_) (fun c11 => ?_)
          · have hw := hw.1 c11
            exact hw _ _ _ h (lv_sub hl [0, 1, 2, 3, 4] rfl)
          · have hw := hw.2 c11
            refine lv_aload_n (pc := 39) C.1 C.2.1 dX9_priceOf_39 rfl (lv_at hl 0 rfl) ?_
            refine GM_X9_13_0 (pc := 40) C h dX9_priceOf_40 ?_
            refine lv_iload (pc := 43) C.1 C.2.1 dX9_priceOf_43 (lv_at hl 4 rfl) ?_
            refine ldM_2 (pc := 45) C h hw.1 dX9_priceOf_45 ?_
            have hw := hw.2
            refine lv_goto (tgt := 50) (pc := 46) C.1 C.2.1 dX9_priceOf_46 (by decide) ?_
            exact hw _ _ _ h (lv_sub hl [0, 1, 2, 4] rfl))
  refine lv_istore (lv' := [(4, .int ((0 : Int32))), (3, .int x1), (0, .ref (a 0)), (1, .int b1), (2, .int b2)]) (pc := 6) C.1 C.2.1 dX9_priceOf_6 hl (by decide) rfl (fun ls hl => ?_)
  exact hw _ _ _ h (lv_sub hl [2, 3, 4, 1, 0] rfl)

def wp_X9_at (b1 : Int32) (b2 : Int32) (z : St) (P : Int32 → St → Prop) : Prop :=
  (∀ z1 : St, z1 = wI z 0 ((0 : Int32)) → (wp_X9_isHour b1 z1 (fun r3 => (((r3 = 0) → P ((-5000 : Int32)) z1) ∧ (¬ (r3 = 0) → (wp_X9_isKnown b2 z1 (fun r6 => (((r6 = 0) → P ((-5000 : Int32)) z1) ∧ (¬ (r6 = 0) → (wp_X9_priceOf b1 b2 z1 (fun r9 => P r9 z1)))))))))))
set_option maxHeartbeats 4000000 in
set_option maxRecDepth 100000 in
theorem m_X9_at (l : Launch) (D : va_G) (t : Ty3) (a : Nat → Nat) (b1 : Int32) (b2 : Int32) (z : St) (P : Int32 → St → Prop) (hw : wp_X9_at b1 b2 z P) : CtI l D t yX9_at cX9_at 3 (some .int) 2 (wM t a) (wM t a z) [.ref (a 0), .int b1, .int b2] P := by
  refine ctI_of (by decide) (Nat.le_of_ble_eq_true rfl) ?_
  intro p e s m args below meth c A ls C hr hlk h hl
  have hl : lv_has ls 3 [(0, .ref (a 0)), (1, .int b1), (2, .int b2)] := hl
  unfold wp_X9_at at hw
  refine lv_aload_n (pc := 0) C.1 C.2.1 dX9_at_0 rfl (lv_at hl 0 rfl) ?_
  refine lv_iconst (v := 0) (pc := 1) C.1 C.2.1 dX9_at_1 (by decide) ?_
  refine PM_X9_131_0 (pc := 2) C h dX9_at_2 (fun z1 ez1 H locs h => ?_)
  have hw := hw z1 ez1
  refine lv_iload_n (pc := 5) C.1 C.2.1 dX9_at_5 rfl (lv_at hl 1 rfl) ?_
  refine cl_si (pc := 6) (As := [.int b1]) (rest := []) C h (m_X9_isHour l D t a b1 z1 _ hw) mw_X9_isHour lm_X9_151 md_X9_isHour ⟨by decide, by decide⟩ ⟨Nat.zero_le _, Nat.zero_le _⟩ hl.1 rfl (Nat.le_of_ble_eq_true rfl) dX9_at_6 (fun r3 z2 H locs hw h => ?_)
  rw [hw.1] at h
  have hw := hw.2
  refine lv_if_eq (tgt := 28) (pc := 9) C.1 C.2.1 dX9_at_9 (by decide) (fun c4 => ?_) (fun c4 => ?_)
  · have hw := hw.1 c4
    refine lv_sipush (v := -5000) (pc := 28) C.1 C.2.1 dX9_at_28 (by decide) ?_
    exact rt_i (pc := 31) C hr hlk h hw dX9_at_31
  · have hw := hw.2 c4
    refine lv_iload_n (pc := 12) C.1 C.2.1 dX9_at_12 rfl (lv_at hl 2 rfl) ?_
    refine cl_si (pc := 13) (As := [.int b2]) (rest := []) C h (m_X9_isKnown l D t a b2 z1 _ hw) mw_X9_isKnown lm_X9_159 md_X9_isKnown ⟨by decide, by decide⟩ ⟨Nat.zero_le _, Nat.zero_le _⟩ hl.1 rfl (Nat.le_of_ble_eq_true rfl) dX9_at_13 (fun r6 z5 H locs hw h => ?_)
    rw [hw.1] at h
    have hw := hw.2
    refine lv_if_eq (tgt := 28) (pc := 16) C.1 C.2.1 dX9_at_16 (by decide) (fun c7 => ?_) (fun c7 => ?_)
    · have hw := hw.1 c7
      refine lv_sipush (v := -5000) (pc := 28) C.1 C.2.1 dX9_at_28 (by decide) ?_
      exact rt_i (pc := 31) C hr hlk h hw dX9_at_31
    · have hw := hw.2 c7
      refine lv_aload_n (pc := 19) C.1 C.2.1 dX9_at_19 rfl (lv_at hl 0 rfl) ?_
      refine lv_iload_n (pc := 20) C.1 C.2.1 dX9_at_20 rfl (lv_at hl 1 rfl) ?_
      refine lv_iload_n (pc := 21) C.1 C.2.1 dX9_at_21 rfl (lv_at hl 2 rfl) ?_
      refine cl_vi (pc := 22) (As := [.int b1, .int b2]) (rest := []) C h (m_X9_priceOf l D t a b1 b2 z1 _ hw) mw_X9_priceOf lm_X9_176 md_X9_priceOf rcM_0 ⟨by decide, by decide⟩ ⟨Nat.zero_le _, Nat.zero_le _⟩ hl.1 rfl (Nat.le_of_ble_eq_true rfl) dX9_at_22 (fun r9 z8 H locs hw h => ?_)
      rw [hw.1] at h
      have hw := hw.2
      refine lv_goto (tgt := 31) (pc := 25) C.1 C.2.1 dX9_at_25 (by decide) ?_
      exact rt_i (pc := 31) C hr hlk h hw dX9_at_31

def wp_X9_home (b1 : Int32) (z : St) (P : Int32 → St → Prop) : Prop :=
  (∀ z1 : St, z1 = wI z 0 ((0 : Int32)) → (wp_X9_in (Int32.toInt64 b1) ((0 : Int64)) ((20000 : Int64)) z1 (fun r3 => (((¬ r3 = 0) → (((¬ (gI z1 8) = ((4 : Int32))) → (vp_in (gI z1 8) 4 ∧ (∀ z6 : St, z6 = wR z1 4 (upd (gF z1 4) (gI z1 8).toNatClampNeg b1) → (∀ z7 : St, z7 = wI z6 8 ((gI z6 8) + ((1 : Int32))) → (wp_X9_told ((gI z7 8) - ((1 : Int32))) z7 (fun r9 z8 => P r9 z8)))))) ∧ ((gI z1 8) = ((4 : Int32)) → (wp_X9_told ((-5 : Int32)) z1 (fun r11 z10 => P r11 z10))))) ∧ (r3 = 0 → (wp_X9_told ((-1 : Int32)) z1 (fun r13 z12 => P r13 z12)))))))
set_option maxHeartbeats 4000000 in
set_option maxRecDepth 100000 in
theorem m_X9_home (l : Launch) (D : va_G) (t : Ty3) (a : Nat → Nat) (b1 : Int32) (z : St) (P : Int32 → St → Prop) (hw : wp_X9_home b1 z P) : CtI l D t yX9_home cX9_home 2 (some .int) 1 (wM t a) (wM t a z) [.ref (a 0), .int b1] P := by
  refine ctI_of (by decide) (Nat.le_of_ble_eq_true rfl) ?_
  intro p e s m args below meth c A ls C hr hlk h hl
  have hl : lv_has ls 2 [(0, .ref (a 0)), (1, .int b1)] := hl
  unfold wp_X9_home at hw
  refine lv_aload_n (pc := 0) C.1 C.2.1 dX9_home_0 rfl (lv_at hl 0 rfl) ?_
  refine lv_iconst (v := 0) (pc := 1) C.1 C.2.1 dX9_home_1 (by decide) ?_
  refine PM_X9_131_0 (pc := 2) C h dX9_home_2 (fun z1 ez1 H locs h => ?_)
  have hw := hw z1 ez1
  refine lv_iload_n (pc := 5) C.1 C.2.1 dX9_home_5 rfl (lv_at hl 1 rfl) ?_
  refine lv_i2l (pc := 6) C.1 C.2.1 dX9_home_6 rfl ?_
  refine lv_lconst (v := 0) (pc := 7) C.1 C.2.1 dX9_home_7 (by decide) ?_
  refine lv_ldc2 (pc := 8) C.1 C.2.1 C.2.2.2.1 (C.2.2.2.2 _ lc_X9_180) dX9_home_8 ?_
  refine cl_si (pc := 11) (As := [.long (Int32.toInt64 b1), .long ((0 : Int64)), .long ((20000 : Int64))]) (rest := []) C h (m_X9_in l D t a (Int32.toInt64 b1) ((0 : Int64)) ((20000 : Int64)) z1 _ hw) mw_X9_in lm_X9_139 md_X9_in ⟨by decide, by decide⟩ ⟨Nat.zero_le _, Nat.zero_le _⟩ hl.1 rfl (Nat.le_of_ble_eq_true rfl) dX9_home_11 (fun r3 z2 H locs hw h => ?_)
  rw [hw.1] at h
  have hw := hw.2
  refine lv_if_ne (tgt := 23) (pc := 14) C.1 C.2.1 dX9_home_14 (by decide) (fun c4 => ?_) (fun c4 => ?_)
  · have hw := hw.1 c4
    refine lv_aload_n (pc := 23) C.1 C.2.1 dX9_home_23 rfl (lv_at hl 0 rfl) ?_
    refine GM_X9_145_0 (pc := 24) C h dX9_home_24 ?_
    refine lv_iconst (v := 4) (pc := 27) C.1 C.2.1 dX9_home_27 (by decide) ?_
    refine lv_icmp_ne (tgt := 38) (pc := 28) C.1 C.2.1 dX9_home_28 (by decide) (fun c5 => ?_) (fun c5 => ?_)
    · have hw := hw.1 c5
      refine lv_aload_n (pc := 38) C.1 C.2.1 dX9_home_38 rfl (lv_at hl 0 rfl) ?_
      refine GM_X9_23_0 (pc := 39) C h dX9_home_39 ?_
      refine lv_aload_n (pc := 42) C.1 C.2.1 dX9_home_42 rfl (lv_at hl 0 rfl) ?_
      refine GM_X9_145_0 (pc := 43) C h dX9_home_43 ?_
      refine lv_iload_n (pc := 46) C.1 C.2.1 dX9_home_46 rfl (lv_at hl 1 rfl) ?_
      refine stM_4 (pc := 47) C h hw.1 dX9_home_47 (fun z6 ez6 H locs h => ?_)
      have hw := hw.2 z6 ez6
      refine lv_aload_n (pc := 48) C.1 C.2.1 dX9_home_48 rfl (lv_at hl 0 rfl) ?_
      refine lv_dup (pc := 49) C.1 C.2.1 dX9_home_49 rfl ?_
      refine GM_X9_145_0 (pc := 50) C h dX9_home_50 ?_
      refine lv_iconst (v := 1) (pc := 53) C.1 C.2.1 dX9_home_53 (by decide) ?_
      refine lv_iadd (pc := 54) C.1 C.2.1 dX9_home_54 ?_
      refine PM_X9_145_0 (pc := 55) C h dX9_home_55 (fun z7 ez7 H locs h => ?_)
      have hw := hw z7 ez7
      refine lv_aload_n (pc := 58) C.1 C.2.1 dX9_home_58 rfl (lv_at hl 0 rfl) ?_
      refine lv_aload_n (pc := 59) C.1 C.2.1 dX9_home_59 rfl (lv_at hl 0 rfl) ?_
      refine GM_X9_145_0 (pc := 60) C h dX9_home_60 ?_
      refine lv_iconst (v := 1) (pc := 63) C.1 C.2.1 dX9_home_63 (by decide) ?_
      refine lv_isub (pc := 64) C.1 C.2.1 dX9_home_64 ?_
      refine cl_vi (pc := 65) (As := [.int ((gI z7 8) - ((1 : Int32)))]) (rest := []) C h (m_X9_told l D t a ((gI z7 8) - ((1 : Int32))) z7 _ hw) mw_X9_told lm_X9_162 md_X9_told rcM_0 ⟨by decide, by decide⟩ ⟨Nat.zero_le _, Nat.zero_le _⟩ hl.1 rfl (Nat.le_of_ble_eq_true rfl) dX9_home_65 (fun r9 z8 H locs hw h => ?_)
      exact rt_i (pc := 68) C hr hlk h hw dX9_home_68
    · have hw := hw.2 c5
      refine lv_aload_n (pc := 31) C.1 C.2.1 dX9_home_31 rfl (lv_at hl 0 rfl) ?_
      refine lv_bipush (v := -5) (pc := 32) C.1 C.2.1 dX9_home_32 (by decide) ?_
      refine cl_vi (pc := 34) (As := [.int ((-5 : Int32))]) (rest := []) C h (m_X9_told l D t a ((-5 : Int32)) z1 _ hw) mw_X9_told lm_X9_162 md_X9_told rcM_0 ⟨by decide, by decide⟩ ⟨Nat.zero_le _, Nat.zero_le _⟩ hl.1 rfl (Nat.le_of_ble_eq_true rfl) dX9_home_34 (fun r11 z10 H locs hw h => ?_)
      exact rt_i (pc := 37) C hr hlk h hw dX9_home_37
  · have hw := hw.2 c4
    refine lv_aload_n (pc := 17) C.1 C.2.1 dX9_home_17 rfl (lv_at hl 0 rfl) ?_
    refine lv_iconst (v := -1) (pc := 18) C.1 C.2.1 dX9_home_18 (by decide) ?_
    refine cl_vi (pc := 19) (As := [.int ((-1 : Int32))]) (rest := []) C h (m_X9_told l D t a ((-1 : Int32)) z1 _ hw) mw_X9_told lm_X9_162 md_X9_told rcM_0 ⟨by decide, by decide⟩ ⟨Nat.zero_le _, Nat.zero_le _⟩ hl.1 rfl (Nat.le_of_ble_eq_true rfl) dX9_home_19 (fun r13 z12 H locs hw h => ?_)
    exact rt_i (pc := 22) C hr hlk h hw dX9_home_22

def wp_X9_isHome (b1 : Int32) (z : St) (P : Int32 → Prop) : Prop :=
  (wp_X9_in (Int32.toInt64 b1) ((0 : Int64)) ((Int32.toInt64 (gI z 8)) - ((1 : Int64))) z (fun r2 => ((r2 = 0 ∨ r2 = 1) ∧ P r2)))
set_option maxHeartbeats 4000000 in
set_option maxRecDepth 100000 in
theorem m_X9_isHome (l : Launch) (D : va_G) (t : Ty3) (a : Nat → Nat) (b1 : Int32) (z : St) (P : Int32 → Prop) (hw : wp_X9_isHome b1 z P) : CtI l D t yX9_isHome cX9_isHome 2 (some .boolean) 1 (wM t a) (wM t a z) [.ref (a 0), .int b1] (fun rr zz => zz = z ∧ P rr) := by
  refine ctI_of (by decide) (Nat.le_of_ble_eq_true rfl) ?_
  intro p e s m args below meth c A ls C hr hlk h hl
  have hl : lv_has ls 2 [(0, .ref (a 0)), (1, .int b1)] := hl
  unfold wp_X9_isHome at hw
  refine lv_iload_n (pc := 0) C.1 C.2.1 dX9_isHome_0 rfl (lv_at hl 1 rfl) ?_
  refine lv_i2l (pc := 1) C.1 C.2.1 dX9_isHome_1 rfl ?_
  refine lv_lconst (v := 0) (pc := 2) C.1 C.2.1 dX9_isHome_2 (by decide) ?_
  refine lv_aload_n (pc := 3) C.1 C.2.1 dX9_isHome_3 rfl (lv_at hl 0 rfl) ?_
  refine GM_X9_145_0 (pc := 4) C h dX9_isHome_4 ?_
  refine lv_i2l (pc := 7) C.1 C.2.1 dX9_isHome_7 rfl ?_
  refine lv_lconst (v := 1) (pc := 8) C.1 C.2.1 dX9_isHome_8 (by decide) ?_
  refine lv_lsub (pc := 9) C.1 C.2.1 dX9_isHome_9 ?_
  refine cl_si (pc := 10) (As := [.long (Int32.toInt64 b1), .long ((0 : Int64)), .long ((Int32.toInt64 (gI z 8)) - ((1 : Int64)))]) (rest := []) C h (m_X9_in l D t a (Int32.toInt64 b1) ((0 : Int64)) ((Int32.toInt64 (gI z 8)) - ((1 : Int64))) z _ hw) mw_X9_in lm_X9_139 md_X9_in ⟨by decide, by decide⟩ ⟨Nat.zero_le _, Nat.zero_le _⟩ hl.1 rfl (Nat.le_of_ble_eq_true rfl) dX9_isHome_10 (fun r2 z1 H locs hw h => ?_)
  rw [hw.1] at h
  have hw := hw.2
  exact rt_z (pc := 13) C hr hlk h hw.1 ⟨rfl, hw.2⟩ dX9_isHome_13

def wp_X9_base (b1 : Int32) (b2 : Int32) (b3 : Int32) (z : St) (P : Int32 → St → Prop) : Prop :=
  (∀ z1 : St, z1 = wI z 0 ((0 : Int32)) → (wp_X9_in (Int32.toInt64 b2) ((0 : Int64)) ((23 : Int64)) z1 (fun r3 => (∀ K4 : Prop, ((wp_X9_told ((-1 : Int32)) z1 (fun r6 z5 => P r6 z5)) → K4) → (((r3 = 0) → K4) ∧ (¬ (r3 = 0) → (wp_X9_in (Int32.toInt64 b3) ((0 : Int64)) ((5000 : Int64)) z1 (fun r9 => (((¬ r9 = 0) → (wp_X9_isHome b1 z1 (fun r12 => (((¬ r12 = 0) → (vp_in ((((24 : Int32)) * b1) + b2) 96 ∧ (∀ z14 : St, z14 = wR z1 5 (upd (gF z1 5) ((((24 : Int32)) * b1) + b2).toNatClampNeg b3) → (wp_X9_told ((0 : Int32)) z14 (fun r16 z15 => P r16 z15))))) ∧ (r12 = 0 → (wp_X9_told ((-2 : Int32)) z1 (fun r18 z17 => P r18 z17))))))) ∧ (r9 = 0 → K4))))))))))
set_option maxHeartbeats 4000000 in
set_option maxRecDepth 100000 in
theorem m_X9_base (l : Launch) (D : va_G) (t : Ty3) (a : Nat → Nat) (b1 : Int32) (b2 : Int32) (b3 : Int32) (z : St) (P : Int32 → St → Prop) (hw : wp_X9_base b1 b2 b3 z P) : CtI l D t yX9_base cX9_base 4 (some .int) 2 (wM t a) (wM t a z) [.ref (a 0), .int b1, .int b2, .int b3] P := by
  refine ctI_of (by decide) (Nat.le_of_ble_eq_true rfl) ?_
  intro p e s m args below meth c A ls C hr hlk h hl
  have hl : lv_has ls 4 [(0, .ref (a 0)), (1, .int b1), (2, .int b2), (3, .int b3)] := hl
  unfold wp_X9_base at hw
  refine lv_aload_n (pc := 0) C.1 C.2.1 dX9_base_0 rfl (lv_at hl 0 rfl) ?_
  refine lv_iconst (v := 0) (pc := 1) C.1 C.2.1 dX9_base_1 (by decide) ?_
  refine PM_X9_131_0 (pc := 2) C h dX9_base_2 (fun z1 ez1 H locs h => ?_)
  have hw := hw z1 ez1
  refine lv_iload_n (pc := 5) C.1 C.2.1 dX9_base_5 rfl (lv_at hl 2 rfl) ?_
  refine lv_i2l (pc := 6) C.1 C.2.1 dX9_base_6 rfl ?_
  refine lv_lconst (v := 0) (pc := 7) C.1 C.2.1 dX9_base_7 (by decide) ?_
  refine lv_ldc2 (pc := 8) C.1 C.2.1 C.2.2.2.1 (C.2.2.2.2 _ lc_X9_182) dX9_base_8 ?_
  refine cl_si (pc := 11) (As := [.long (Int32.toInt64 b2), .long ((0 : Int64)), .long ((23 : Int64))]) (rest := []) C h (m_X9_in l D t a (Int32.toInt64 b2) ((0 : Int64)) ((23 : Int64)) z1 _ hw) mw_X9_in lm_X9_139 md_X9_in ⟨by decide, by decide⟩ ⟨Nat.zero_le _, Nat.zero_le _⟩ hl.1 rfl (Nat.le_of_ble_eq_true rfl) dX9_base_11 (fun r3 z2 H locs hw h => ?_)
  rw [hw.1] at h
  have hw := hw.2
  have hw := hw (∀ (H : Heap) (locs : List Loc) (ls : Array Slot), wd D t A s (wM t a z1) H locs → lv_has ls 4 [(0, .ref (a 0))] → W p l e (rmd 2) s m args below meth c H locs 0 0 (QI D t A (wM t a) P below args s) (F0 m 29 ls [])) (by
      intro hw H locs ls h hl
      refine lv_aload_n (pc := 29) C.1 C.2.1 dX9_base_29 rfl (lv_at hl 0 rfl) ?_
      refine lv_iconst (v := -1) (pc := 30) C.1 C.2.1 dX9_base_30 (by decide) ?_
      refine cl_vi (pc := 31) (As := [.int ((-1 : Int32))]) (rest := []) C h (m_X9_told l D t a ((-1 : Int32)) z1 _ hw) mw_X9_told lm_X9_162 md_X9_told rcM_0 ⟨by decide, by decide⟩ ⟨Nat.zero_le _, Nat.zero_le _⟩ hl.1 rfl (Nat.le_of_ble_eq_true rfl) dX9_base_31 (fun r6 z5 H locs hw h => ?_)
      exact rt_i (pc := 34) C hr hlk h hw dX9_base_34)
  refine lv_if_eq (tgt := 29) (pc := 14) C.1 C.2.1 dX9_base_14 (by decide) (fun c7 => ?_) (fun c7 => ?_)
  · have hw := hw.1 c7
    exact hw _ _ _ h (lv_sub hl [0] rfl)
  · have hw := hw.2 c7
    refine lv_iload_n (pc := 17) C.1 C.2.1 dX9_base_17 rfl (lv_at hl 3 rfl) ?_
    refine lv_i2l (pc := 18) C.1 C.2.1 dX9_base_18 rfl ?_
    refine lv_lconst (v := 0) (pc := 19) C.1 C.2.1 dX9_base_19 (by decide) ?_
    refine lv_ldc2 (pc := 20) C.1 C.2.1 C.2.2.2.1 (C.2.2.2.2 _ lc_X9_184) dX9_base_20 ?_
    refine cl_si (pc := 23) (As := [.long (Int32.toInt64 b3), .long ((0 : Int64)), .long ((5000 : Int64))]) (rest := []) C h (m_X9_in l D t a (Int32.toInt64 b3) ((0 : Int64)) ((5000 : Int64)) z1 _ hw) mw_X9_in lm_X9_139 md_X9_in ⟨by decide, by decide⟩ ⟨Nat.zero_le _, Nat.zero_le _⟩ hl.1 rfl (Nat.le_of_ble_eq_true rfl) dX9_base_23 (fun r9 z8 H locs hw h => ?_)
    rw [hw.1] at h
    have hw := hw.2
    refine lv_if_ne (tgt := 35) (pc := 26) C.1 C.2.1 dX9_base_26 (by decide) (fun c10 => ?_) (fun c10 => ?_)
    · have hw := hw.1 c10
      refine lv_aload_n (pc := 35) C.1 C.2.1 dX9_base_35 rfl (lv_at hl 0 rfl) ?_
      refine lv_iload_n (pc := 36) C.1 C.2.1 dX9_base_36 rfl (lv_at hl 1 rfl) ?_
      refine cl_vi (pc := 37) (As := [.int b1]) (rest := []) C h (m_X9_isHome l D t a b1 z1 _ hw) mw_X9_isHome lm_X9_186 md_X9_isHome rcM_0 ⟨by decide, by decide⟩ ⟨Nat.zero_le _, Nat.zero_le _⟩ hl.1 rfl (Nat.le_of_ble_eq_true rfl) dX9_base_37 (fun r12 z11 H locs hw h => ?_)
      rw [hw.1] at h
      have hw := hw.2
      refine lv_if_ne (tgt := 50) (pc := 40) C.1 C.2.1 dX9_base_40 (by decide) (fun c13 => ?_) (fun c13 => ?_)
      · have hw := hw.1 c13
        refine lv_aload_n (pc := 50) C.1 C.2.1 dX9_base_50 rfl (lv_at hl 0 rfl) ?_
        refine GM_X9_26_0 (pc := 51) C h dX9_base_51 ?_
        refine lv_bipush (v := 24) (pc := 54) C.1 C.2.1 dX9_base_54 (by decide) ?_
        refine lv_iload_n (pc := 56) C.1 C.2.1 dX9_base_56 rfl (lv_at hl 1 rfl) ?_
        refine lv_imul (pc := 57) C.1 C.2.1 dX9_base_57 ?_
        refine lv_iload_n (pc := 58) C.1 C.2.1 dX9_base_58 rfl (lv_at hl 2 rfl) ?_
        refine lv_iadd (pc := 59) C.1 C.2.1 dX9_base_59 ?_
        refine lv_iload_n (pc := 60) C.1 C.2.1 dX9_base_60 rfl (lv_at hl 3 rfl) ?_
        refine stM_5 (pc := 61) C h hw.1 dX9_base_61 (fun z14 ez14 H locs h => ?_)
        have hw := hw.2 z14 ez14
        refine lv_aload_n (pc := 62) C.1 C.2.1 dX9_base_62 rfl (lv_at hl 0 rfl) ?_
        refine lv_iconst (v := 0) (pc := 63) C.1 C.2.1 dX9_base_63 (by decide) ?_
        refine cl_vi (pc := 64) (As := [.int ((0 : Int32))]) (rest := []) C h (m_X9_told l D t a ((0 : Int32)) z14 _ hw) mw_X9_told lm_X9_162 md_X9_told rcM_0 ⟨by decide, by decide⟩ ⟨Nat.zero_le _, Nat.zero_le _⟩ hl.1 rfl (Nat.le_of_ble_eq_true rfl) dX9_base_64 (fun r16 z15 H locs hw h => ?_)
        exact rt_i (pc := 67) C hr hlk h hw dX9_base_67
      · have hw := hw.2 c13
        refine lv_aload_n (pc := 43) C.1 C.2.1 dX9_base_43 rfl (lv_at hl 0 rfl) ?_
        refine lv_bipush (v := -2) (pc := 44) C.1 C.2.1 dX9_base_44 (by decide) ?_
        refine cl_vi (pc := 46) (As := [.int ((-2 : Int32))]) (rest := []) C h (m_X9_told l D t a ((-2 : Int32)) z1 _ hw) mw_X9_told lm_X9_162 md_X9_told rcM_0 ⟨by decide, by decide⟩ ⟨Nat.zero_le _, Nat.zero_le _⟩ hl.1 rfl (Nat.le_of_ble_eq_true rfl) dX9_base_46 (fun r18 z17 H locs hw h => ?_)
        exact rt_i (pc := 49) C hr hlk h hw dX9_base_49
    · have hw := hw.2 c10
      exact hw _ _ _ h (lv_sub hl [0] rfl)

def wp_X9_cable (b1 : Int32) (z : St) (P : Int32 → St → Prop) : Prop :=
  (∀ z1 : St, z1 = wI z 0 ((0 : Int32)) → (wp_X9_in (Int32.toInt64 b1) ((0 : Int64)) ((80000 : Int64)) z1 (fun r3 => (((¬ r3 = 0) → (∀ x5 : Int32, x5 = gI z1 11 → (∀ z6 : St, z6 = wI z1 11 b1 → (wp_X9_told x5 z6 (fun r8 z7 => P r8 z7))))) ∧ (r3 = 0 → (wp_X9_told ((-1 : Int32)) z1 (fun r10 z9 => P r10 z9)))))))
set_option maxHeartbeats 4000000 in
set_option maxRecDepth 100000 in
theorem m_X9_cable (l : Launch) (D : va_G) (t : Ty3) (a : Nat → Nat) (b1 : Int32) (z : St) (P : Int32 → St → Prop) (hw : wp_X9_cable b1 z P) : CtI l D t yX9_cable cX9_cable 3 (some .int) 1 (wM t a) (wM t a z) [.ref (a 0), .int b1] P := by
  refine ctI_of (by decide) (Nat.le_of_ble_eq_true rfl) ?_
  intro p e s m args below meth c A ls C hr hlk h hl
  have hl : lv_has ls 3 [(0, .ref (a 0)), (1, .int b1)] := hl
  unfold wp_X9_cable at hw
  refine lv_aload_n (pc := 0) C.1 C.2.1 dX9_cable_0 rfl (lv_at hl 0 rfl) ?_
  refine lv_iconst (v := 0) (pc := 1) C.1 C.2.1 dX9_cable_1 (by decide) ?_
  refine PM_X9_131_0 (pc := 2) C h dX9_cable_2 (fun z1 ez1 H locs h => ?_)
  have hw := hw z1 ez1
  refine lv_iload_n (pc := 5) C.1 C.2.1 dX9_cable_5 rfl (lv_at hl 1 rfl) ?_
  refine lv_i2l (pc := 6) C.1 C.2.1 dX9_cable_6 rfl ?_
  refine lv_lconst (v := 0) (pc := 7) C.1 C.2.1 dX9_cable_7 (by decide) ?_
  refine lv_ldc2 (pc := 8) C.1 C.2.1 C.2.2.2.1 (C.2.2.2.2 _ lc_X9_189) dX9_cable_8 ?_
  refine cl_si (pc := 11) (As := [.long (Int32.toInt64 b1), .long ((0 : Int64)), .long ((80000 : Int64))]) (rest := []) C h (m_X9_in l D t a (Int32.toInt64 b1) ((0 : Int64)) ((80000 : Int64)) z1 _ hw) mw_X9_in lm_X9_139 md_X9_in ⟨by decide, by decide⟩ ⟨Nat.zero_le _, Nat.zero_le _⟩ hl.1 rfl (Nat.le_of_ble_eq_true rfl) dX9_cable_11 (fun r3 z2 H locs hw h => ?_)
  rw [hw.1] at h
  have hw := hw.2
  refine lv_if_ne (tgt := 23) (pc := 14) C.1 C.2.1 dX9_cable_14 (by decide) (fun c4 => ?_) (fun c4 => ?_)
  · have hw := hw.1 c4
    refine lv_aload_n (pc := 23) C.1 C.2.1 dX9_cable_23 rfl (lv_at hl 0 rfl) ?_
    refine GM_X9_30_0 (pc := 24) C h dX9_cable_24 ?_
    refine lv_topi (fun x5 ex5 => ?_)
    have hw := hw x5 ex5
    refine lv_istore_n (lv' := [(2, .int x5), (0, .ref (a 0)), (1, .int b1)]) (pc := 27) C.1 C.2.1 dX9_cable_27 rfl hl (by decide) rfl (fun ls hl => ?_)
    refine lv_aload_n (pc := 28) C.1 C.2.1 dX9_cable_28 rfl (lv_at hl 1 rfl) ?_
    refine lv_iload_n (pc := 29) C.1 C.2.1 dX9_cable_29 rfl (lv_at hl 2 rfl) ?_
    refine PM_X9_30_0 (pc := 30) C h dX9_cable_30 (fun z6 ez6 H locs h => ?_)
    have hw := hw z6 ez6
    refine lv_aload_n (pc := 33) C.1 C.2.1 dX9_cable_33 rfl (lv_at hl 1 rfl) ?_
    refine lv_iload_n (pc := 34) C.1 C.2.1 dX9_cable_34 rfl (lv_at hl 0 rfl) ?_
    refine cl_vi (pc := 35) (As := [.int x5]) (rest := []) C h (m_X9_told l D t a x5 z6 _ hw) mw_X9_told lm_X9_162 md_X9_told rcM_0 ⟨by decide, by decide⟩ ⟨Nat.zero_le _, Nat.zero_le _⟩ hl.1 rfl (Nat.le_of_ble_eq_true rfl) dX9_cable_35 (fun r8 z7 H locs hw h => ?_)
    exact rt_i (pc := 38) C hr hlk h hw dX9_cable_38
  · have hw := hw.2 c4
    refine lv_aload_n (pc := 17) C.1 C.2.1 dX9_cable_17 rfl (lv_at hl 0 rfl) ?_
    refine lv_iconst (v := -1) (pc := 18) C.1 C.2.1 dX9_cable_18 (by decide) ?_
    refine cl_vi (pc := 19) (As := [.int ((-1 : Int32))]) (rest := []) C h (m_X9_told l D t a ((-1 : Int32)) z1 _ hw) mw_X9_told lm_X9_162 md_X9_told rcM_0 ⟨by decide, by decide⟩ ⟨Nat.zero_le _, Nat.zero_le _⟩ hl.1 rfl (Nat.le_of_ble_eq_true rfl) dX9_cable_19 (fun r10 z9 H locs hw h => ?_)
    exact rt_i (pc := 22) C hr hlk h hw dX9_cable_22

def wp_X9_job (b1 : Int32) (b2 : Int32) (b3 : Int32) (b4 : Int32) (b5 : Int32) (b6 : Int32) (b7 : Int32) (b8 : Int32) (z : St) (P : Int32 → St → Prop) : Prop :=
  (∀ z1 : St, z1 = wI z 0 ((0 : Int32)) → (wp_X9_isHour b2 z1 (fun r3 => (∀ K5 : Int32 → Prop, (∀ (s4 : Int32), (∀ K7 : Int32 → Prop, (∀ (s6 : Int32), (((¬ s6 = 0) → (wp_X9_isHome b1 z1 (fun r10 => (((¬ r10 = 0) → (((¬ (gI z1 12) = ((16 : Int32))) → (vp_in (gI z1 12) 16 ∧ (∀ z13 : St, z13 = wR z1 6 (upd (gF z1 6) (gI z1 12).toNatClampNeg b1) → (vp_in (gI z13 12) 16 ∧ (∀ z14 : St, z14 = wR z13 7 (upd (gF z13 7) (gI z13 12).toNatClampNeg b2) → (vp_in (gI z14 12) 16 ∧ (∀ z15 : St, z15 = wR z14 8 (upd (gF z14 8) (gI z14 12).toNatClampNeg b3) → (vp_in (gI z15 12) 16 ∧ (∀ z16 : St, z16 = wR z15 9 (upd (gF z15 9) (gI z15 12).toNatClampNeg b4) → (vp_in (((4 : Int32)) * (gI z16 12)) 64 ∧ (∀ z17 : St, z17 = wR z16 10 (upd (gF z16 10) (((4 : Int32)) * (gI z16 12)).toNatClampNeg b5) → (vp_in ((((4 : Int32)) * (gI z17 12)) + ((1 : Int32))) 64 ∧ (∀ z18 : St, z18 = wR z17 10 (upd (gF z17 10) ((((4 : Int32)) * (gI z17 12)) + ((1 : Int32))).toNatClampNeg b6) → (vp_in ((((4 : Int32)) * (gI z18 12)) + ((2 : Int32))) 64 ∧ (∀ z19 : St, z19 = wR z18 10 (upd (gF z18 10) ((((4 : Int32)) * (gI z18 12)) + ((2 : Int32))).toNatClampNeg b7) → (vp_in ((((4 : Int32)) * (gI z19 12)) + ((3 : Int32))) 64 ∧ (∀ z20 : St, z20 = wR z19 10 (upd (gF z19 10) ((((4 : Int32)) * (gI z19 12)) + ((3 : Int32))).toNatClampNeg b8) → (vp_in (gI z20 12) 16 ∧ (∀ z21 : St, z21 = wR z20 11 (upd (gF z20 11) (gI z20 12).toNatClampNeg ((0 : Int32))) → (vp_in (gI z21 12) 16 ∧ (∀ z22 : St, z22 = wR z21 12 (upd (gF z21 12) (gI z21 12).toNatClampNeg ((-1 : Int32))) → (∀ z23 : St, z23 = wI z22 12 ((gI z22 12) + ((1 : Int32))) → (wp_X9_told ((gI z23 12) - ((1 : Int32))) z23 (fun r25 z24 => P r25 z24)))))))))))))))))))))))) ∧ ((gI z1 12) = ((16 : Int32)) → (wp_X9_told ((-5 : Int32)) z1 (fun r27 z26 => P r27 z26))))) ∧ (r10 = 0 → (wp_X9_told ((-2 : Int32)) z1 (fun r29 z28 => P r29 z28))))))) ∧ (s6 = 0 → (wp_X9_told ((-1 : Int32)) z1 (fun r31 z30 => P r31 z30)))) → K7 s6) → (∀ K32 : Prop, (K7 ((0 : Int32)) → K32) → (((s4 = 0) → K32) ∧ (¬ (s4 = 0) → (∀ K34 : Prop, ((∀ K35 : Prop, ((∀ K36 : Prop, (K7 ((1 : Int32)) → K36) → (((b4 < ((4 : Int32))) → K36) ∧ (¬ (b4 < ((4 : Int32))) → (wp_X9_in (Int32.toInt64 b8) ((0 : Int64)) ((5000 : Int64)) z1 (fun r39 => (((r39 = 0) → K32) ∧ (¬ (r39 = 0) → K36))))))) → K35) → (((b4 < ((3 : Int32))) → K35) ∧ (¬ (b4 < ((3 : Int32))) → (wp_X9_in (Int32.toInt64 b7) ((0 : Int64)) ((5000 : Int64)) z1 (fun r43 => (((r43 = 0) → K32) ∧ (¬ (r43 = 0) → K35))))))) → K34) → (((b4 < ((2 : Int32))) → K34) ∧ (¬ (b4 < ((2 : Int32))) → (wp_X9_in (Int32.toInt64 b6) ((0 : Int64)) ((5000 : Int64)) z1 (fun r47 => (((r47 = 0) → K32) ∧ (¬ (r47 = 0) → K34))))))))))) → K5 s4) → (∀ K49 : Prop, (K5 ((0 : Int32)) → K49) → (((r3 = 0) → K49) ∧ (¬ (r3 = 0) → (wp_X9_isHour b3 z1 (fun r52 => (((r52 = 0) → K49) ∧ (¬ (r52 = 0) → (((b3 < b2) → K49) ∧ (¬ (b3 < b2) → (((((23 : Int32)) < (b3 - b2)) → K49) ∧ (¬ (((23 : Int32)) < (b3 - b2)) → (wp_X9_in (Int32.toInt64 b4) ((1 : Int64)) ((4 : Int64)) z1 (fun r57 => (((r57 = 0) → K49) ∧ (¬ (r57 = 0) → (wp_X9_in (Int32.toInt64 b5) ((0 : Int64)) ((5000 : Int64)) z1 (fun r60 => (((r60 = 0) → K49) ∧ (¬ (r60 = 0) → K5 ((1 : Int32)))))))))))))))))))))))))
set_option maxHeartbeats 4000000 in
set_option maxRecDepth 100000 in
theorem m_X9_job (l : Launch) (D : va_G) (t : Ty3) (a : Nat → Nat) (b1 : Int32) (b2 : Int32) (b3 : Int32) (b4 : Int32) (b5 : Int32) (b6 : Int32) (b7 : Int32) (b8 : Int32) (z : St) (P : Int32 → St → Prop) (hw : wp_X9_job b1 b2 b3 b4 b5 b6 b7 b8 z P) : CtI l D t yX9_job cX9_job 10 (some .int) 2 (wM t a) (wM t a z) [.ref (a 0), .int b1, .int b2, .int b3, .int b4, .int b5, .int b6, .int b7, .int b8] P := by
  refine ctI_of (by decide) (Nat.le_of_ble_eq_true rfl) ?_
  intro p e s m args below meth c A ls C hr hlk h hl
  have hl : lv_has ls 10 [(0, .ref (a 0)), (1, .int b1), (2, .int b2), (3, .int b3), (4, .int b4), (5, .int b5), (6, .int b6), (7, .int b7), (8, .int b8)] := hl
  unfold wp_X9_job at hw
  refine lv_aload_n (pc := 0) C.1 C.2.1 dX9_job_0 rfl (lv_at hl 0 rfl) ?_
  refine lv_iconst (v := 0) (pc := 1) C.1 C.2.1 dX9_job_1 (by decide) ?_
  refine PM_X9_131_0 (pc := 2) C h dX9_job_2 (fun z1 ez1 H locs h => ?_)
  have hw := hw z1 ez1
  refine lv_iload_n (pc := 5) C.1 C.2.1 dX9_job_5 rfl (lv_at hl 2 rfl) ?_
  refine cl_si (pc := 6) (As := [.int b2]) (rest := []) C h (m_X9_isHour l D t a b2 z1 _ hw) mw_X9_isHour lm_X9_151 md_X9_isHour ⟨by decide, by decide⟩ ⟨Nat.zero_le _, Nat.zero_le _⟩ hl.1 rfl (Nat.le_of_ble_eq_true rfl) dX9_job_6 (fun r3 z2 H locs hw h => ?_)
  rw [hw.1] at h
  have hw := hw.2
  have hw := hw (fun (s4 : Int32) => ∀ (H : Heap) (locs : List Loc) (ls : Array Slot), wd D t A s (wM t a z1) H locs → lv_has ls 10 [(0, .ref (a 0)), (1, .int b1), (2, .int b2), (3, .int b3), (4, .int b4), (5, .int b5), (6, .int b6), (7, .int b7), (8, .int b8)] → W p l e (rmd 2) s m args below meth c H locs 0 0 (QI D t A (wM t a) P below args s) (F0 m 63 ls [.int s4])) (by
      intro s4 hw H locs ls h hl
      refine lv_istore (lv' := [(9, .int s4), (0, .ref (a 0)), (1, .int b1), (2, .int b2), (3, .int b3), (4, .int b4), (5, .int b5), (6, .int b6), (7, .int b7), (8, .int b8)]) (pc := 63) C.1 C.2.1 dX9_job_63 hl (by decide) rfl (fun ls hl => ?_)
      refine lv_iload (pc := 65) C.1 C.2.1 dX9_job_65 (lv_at hl 0 rfl) ?_
      have hw := hw (fun (s6 : Int32) => ∀ (H : Heap) (locs : List Loc) (ls : Array Slot), wd D t A s (wM t a z1) H locs → lv_has ls 10 [(0, .ref (a 0)), (1, .int b1), (2, .int b2), (3, .int b3), (4, .int b4), (5, .int b5), (6, .int b6), (7, .int b7), (8, .int b8)] → W p l e (rmd 2) s m args below meth c H locs 0 0 (QI D t A (wM t a) P below args s) (F0 m 132 ls [.int s6])) (by
          intro s6 hw H locs ls h hl
          refine lv_istore (lv' := [(9, .int s6), (0, .ref (a 0)), (1, .int b1), (2, .int b2), (3, .int b3), (4, .int b4), (5, .int b5), (6, .int b6), (7, .int b7), (8, .int b8)]) (pc := 132) C.1 C.2.1 dX9_job_132 hl (by decide) rfl (fun ls hl => ?_)
          refine lv_iload (pc := 134) C.1 C.2.1 dX9_job_134 (lv_at hl 0 rfl) ?_
          refine lv_if_ne (tgt := 145) (pc := 136) C.1 C.2.1 dX9_job_136 (by decide) (fun c8 => ?_) (fun c8 => ?_)
          · have hw := hw.1 c8
            refine lv_aload_n (pc := 145) C.1 C.2.1 dX9_job_145 rfl (lv_at hl 1 rfl) ?_
            refine lv_iload_n (pc := 146) C.1 C.2.1 dX9_job_146 rfl (lv_at hl 2 rfl) ?_
            refine cl_vi (pc := 147) (As := [.int b1]) (rest := []) C h (m_X9_isHome l D t a b1 z1 _ hw) mw_X9_isHome lm_X9_186 md_X9_isHome rcM_0 ⟨by decide, by decide⟩ ⟨Nat.zero_le _, Nat.zero_le _⟩ hl.1 rfl (Nat.le_of_ble_eq_true rfl) dX9_job_147 (fun r10 z9 H locs hw h => ?_)
            rw [hw.1] at h
            have hw := hw.2
            refine lv_if_ne (tgt := 160) (pc := 150) C.1 C.2.1 dX9_job_150 (by decide) (fun c11 => ?_) (fun c11 => ?_)
            · have hw := hw.1 c11
              refine lv_aload_n (pc := 160) C.1 C.2.1 dX9_job_160 rfl (lv_at hl 1 rfl) ?_
              refine GM_X9_148_0 (pc := 161) C h dX9_job_161 ?_
              refine lv_bipush (v := 16) (pc := 164) C.1 C.2.1 dX9_job_164 (by decide) ?_
              refine lv_icmp_ne (tgt := 176) (pc := 166) C.1 C.2.1 dX9_job_166 (by decide) (fun c12 => ?_) (fun c12 => ?_)
              · have hw := hw.1 c12
                refine lv_aload_n (pc := 176) C.1 C.2.1 dX9_job_176 rfl (lv_at hl 1 rfl) ?_
                refine GM_X9_33_0 (pc := 177) C h dX9_job_177 ?_
                refine lv_aload_n (pc := 180) C.1 C.2.1 dX9_job_180 rfl (lv_at hl 1 rfl) ?_
                refine GM_X9_148_0 (pc := 181) C h dX9_job_181 ?_
                refine lv_iload_n (pc := 184) C.1 C.2.1 dX9_job_184 rfl (lv_at hl 2 rfl) ?_
                refine stM_6 (pc := 185) C h hw.1 dX9_job_185 (fun z13 ez13 H locs h => ?_)
                have hw := hw.2 z13 ez13
                refine lv_aload_n (pc := 186) C.1 C.2.1 dX9_job_186 rfl (lv_at hl 1 rfl) ?_
                refine GM_X9_36_0 (pc := 187) C h dX9_job_187 ?_
                refine lv_aload_n (pc := 190) C.1 C.2.1 dX9_job_190 rfl (lv_at hl 1 rfl) ?_
                refine GM_X9_148_0 (pc := 191) C h dX9_job_191 ?_
                refine lv_iload_n (pc := 194) C.1 C.2.1 dX9_job_194 rfl (lv_at hl 3 rfl) ?_
                refine stM_7 (pc := 195) C h hw.1 dX9_job_195 (fun z14 ez14 H locs h => ?_)
                have hw := hw.2 z14 ez14
                refine lv_aload_n (pc := 196) C.1 C.2.1 dX9_job_196 rfl (lv_at hl 1 rfl) ?_
                refine GM_X9_39_0 (pc := 197) C h dX9_job_197 ?_
                refine lv_aload_n (pc := 200) C.1 C.2.1 dX9_job_200 rfl (lv_at hl 1 rfl) ?_
                refine GM_X9_148_0 (pc := 201) C h dX9_job_201 ?_
                refine lv_iload_n (pc := 204) C.1 C.2.1 dX9_job_204 rfl (lv_at hl 4 rfl) ?_
                refine stM_8 (pc := 205) C h hw.1 dX9_job_205 (fun z15 ez15 H locs h => ?_)
                have hw := hw.2 z15 ez15
                refine lv_aload_n (pc := 206) C.1 C.2.1 dX9_job_206 rfl (lv_at hl 1 rfl) ?_
                refine GM_X9_42_0 (pc := 207) C h dX9_job_207 ?_
                refine lv_aload_n (pc := 210) C.1 C.2.1 dX9_job_210 rfl (lv_at hl 1 rfl) ?_
                refine GM_X9_148_0 (pc := 211) C h dX9_job_211 ?_
                refine lv_iload (pc := 214) C.1 C.2.1 dX9_job_214 (lv_at hl 5 rfl) ?_
                refine stM_9 (pc := 216) C h hw.1 dX9_job_216 (fun z16 ez16 H locs h => ?_)
                have hw := hw.2 z16 ez16
                refine lv_aload_n (pc := 217) C.1 C.2.1 dX9_job_217 rfl (lv_at hl 1 rfl) ?_
                refine GM_X9_45_0 (pc := 218) C h dX9_job_218 ?_
                refine lv_iconst (v := 4) (pc := 221) C.1 C.2.1 dX9_job_221 (by decide) ?_
                refine lv_aload_n (pc := 222) C.1 C.2.1 dX9_job_222 rfl (lv_at hl 1 rfl) ?_
                refine GM_X9_148_0 (pc := 223) C h dX9_job_223 ?_
                refine lv_imul (pc := 226) C.1 C.2.1 dX9_job_226 ?_
                refine lv_iload (pc := 227) C.1 C.2.1 dX9_job_227 (lv_at hl 6 rfl) ?_
                refine stM_10 (pc := 229) C h hw.1 dX9_job_229 (fun z17 ez17 H locs h => ?_)
                have hw := hw.2 z17 ez17
                refine lv_aload_n (pc := 230) C.1 C.2.1 dX9_job_230 rfl (lv_at hl 1 rfl) ?_
                refine GM_X9_45_0 (pc := 231) C h dX9_job_231 ?_
                refine lv_iconst (v := 4) (pc := 234) C.1 C.2.1 dX9_job_234 (by decide) ?_
                refine lv_aload_n (pc := 235) C.1 C.2.1 dX9_job_235 rfl (lv_at hl 1 rfl) ?_
                refine GM_X9_148_0 (pc := 236) C h dX9_job_236 ?_
                refine lv_imul (pc := 239) C.1 C.2.1 dX9_job_239 ?_
                refine lv_iconst (v := 1) (pc := 240) C.1 C.2.1 dX9_job_240 (by decide) ?_
                refine lv_iadd (pc := 241) C.1 C.2.1 dX9_job_241 ?_
                refine lv_iload (pc := 242) C.1 C.2.1 dX9_job_242 (lv_at hl 7 rfl) ?_
                refine stM_10 (pc := 244) C h hw.1 dX9_job_244 (fun z18 ez18 H locs h => ?_)
                have hw := hw.2 z18 ez18
                refine lv_aload_n (pc := 245) C.1 C.2.1 dX9_job_245 rfl (lv_at hl 1 rfl) ?_
                refine GM_X9_45_0 (pc := 246) C h dX9_job_246 ?_
                refine lv_iconst (v := 4) (pc := 249) C.1 C.2.1 dX9_job_249 (by decide) ?_
                refine lv_aload_n (pc := 250) C.1 C.2.1 dX9_job_250 rfl (lv_at hl 1 rfl) ?_
                refine GM_X9_148_0 (pc := 251) C h dX9_job_251 ?_
                refine lv_imul (pc := 254) C.1 C.2.1 dX9_job_254 ?_
                refine lv_iconst (v := 2) (pc := 255) C.1 C.2.1 dX9_job_255 (by decide) ?_
                refine lv_iadd (pc := 256) C.1 C.2.1 dX9_job_256 ?_
                refine lv_iload (pc := 257) C.1 C.2.1 dX9_job_257 (lv_at hl 8 rfl) ?_
                refine stM_10 (pc := 259) C h hw.1 dX9_job_259 (fun z19 ez19 H locs h => ?_)
                have hw := hw.2 z19 ez19
                refine lv_aload_n (pc := 260) C.1 C.2.1 dX9_job_260 rfl (lv_at hl 1 rfl) ?_
                refine GM_X9_45_0 (pc := 261) C h dX9_job_261 ?_
                refine lv_iconst (v := 4) (pc := 264) C.1 C.2.1 dX9_job_264 (by decide) ?_
                refine lv_aload_n (pc := 265) C.1 C.2.1 dX9_job_265 rfl (lv_at hl 1 rfl) ?_
                refine GM_X9_148_0 (pc := 266) C h dX9_job_266 ?_
                refine lv_imul (pc := 269) C.1 C.2.1 dX9_job_269 ?_
                refine lv_iconst (v := 3) (pc := 270) C.1 C.2.1 dX9_job_270 (by decide) ?_
                refine lv_iadd (pc := 271) C.1 C.2.1 dX9_job_271 ?_
                refine lv_iload (pc := 272) C.1 C.2.1 dX9_job_272 (lv_at hl 9 rfl) ?_
                refine stM_10 (pc := 274) C h hw.1 dX9_job_274 (fun z20 ez20 H locs h => ?_)
                have hw := hw.2 z20 ez20
                refine lv_aload_n (pc := 275) C.1 C.2.1 dX9_job_275 rfl (lv_at hl 1 rfl) ?_
                refine GM_X9_48_0 (pc := 276) C h dX9_job_276 ?_
                refine lv_aload_n (pc := 279) C.1 C.2.1 dX9_job_279 rfl (lv_at hl 1 rfl) ?_
                refine GM_X9_148_0 (pc := 280) C h dX9_job_280 ?_
                refine lv_iconst (v := 0) (pc := 283) C.1 C.2.1 dX9_job_283 (by decide) ?_
                refine stM_11 (pc := 284) C h hw.1 dX9_job_284 (fun z21 ez21 H locs h => ?_)
                have hw := hw.2 z21 ez21
                refine lv_aload_n (pc := 285) C.1 C.2.1 dX9_job_285 rfl (lv_at hl 1 rfl) ?_
                refine GM_X9_51_0 (pc := 286) C h dX9_job_286 ?_
                refine lv_aload_n (pc := 289) C.1 C.2.1 dX9_job_289 rfl (lv_at hl 1 rfl) ?_
                refine GM_X9_148_0 (pc := 290) C h dX9_job_290 ?_
                refine lv_iconst (v := -1) (pc := 293) C.1 C.2.1 dX9_job_293 (by decide) ?_
                refine stM_12 (pc := 294) C h hw.1 dX9_job_294 (fun z22 ez22 H locs h => ?_)
                have hw := hw.2 z22 ez22
                refine lv_aload_n (pc := 295) C.1 C.2.1 dX9_job_295 rfl (lv_at hl 1 rfl) ?_
                refine lv_dup (pc := 296) C.1 C.2.1 dX9_job_296 rfl ?_
                refine GM_X9_148_0 (pc := 297) C h dX9_job_297 ?_
                refine lv_iconst (v := 1) (pc := 300) C.1 C.2.1 dX9_job_300 (by decide) ?_
                refine lv_iadd (pc := 301) C.1 C.2.1 dX9_job_301 ?_
                refine PM_X9_148_0 (pc := 302) C h dX9_job_302 (fun z23 ez23 H locs h => ?_)
                have hw := hw z23 ez23
                refine lv_aload_n (pc := 305) C.1 C.2.1 dX9_job_305 rfl (lv_at hl 1 rfl) ?_
                refine lv_aload_n (pc := 306) C.1 C.2.1 dX9_job_306 rfl (lv_at hl 1 rfl) ?_
                refine GM_X9_148_0 (pc := 307) C h dX9_job_307 ?_
                refine lv_iconst (v := 1) (pc := 310) C.1 C.2.1 dX9_job_310 (by decide) ?_
                refine lv_isub (pc := 311) C.1 C.2.1 dX9_job_311 ?_
                refine cl_vi (pc := 312) (As := [.int ((gI z23 12) - ((1 : Int32)))]) (rest := []) C h (m_X9_told l D t a ((gI z23 12) - ((1 : Int32))) z23 _ hw) mw_X9_told lm_X9_162 md_X9_told rcM_0 ⟨by decide, by decide⟩ ⟨Nat.zero_le _, Nat.zero_le _⟩ hl.1 rfl (Nat.le_of_ble_eq_true rfl) dX9_job_312 (fun r25 z24 H locs hw h => ?_)
                exact rt_i (pc := 315) C hr hlk h hw dX9_job_315
              · have hw := hw.2 c12
                refine lv_aload_n (pc := 169) C.1 C.2.1 dX9_job_169 rfl (lv_at hl 1 rfl) ?_
                refine lv_bipush (v := -5) (pc := 170) C.1 C.2.1 dX9_job_170 (by decide) ?_
                refine cl_vi (pc := 172) (As := [.int ((-5 : Int32))]) (rest := []) C h (m_X9_told l D t a ((-5 : Int32)) z1 _ hw) mw_X9_told lm_X9_162 md_X9_told rcM_0 ⟨by decide, by decide⟩ ⟨Nat.zero_le _, Nat.zero_le _⟩ hl.1 rfl (Nat.le_of_ble_eq_true rfl) dX9_job_172 (fun r27 z26 H locs hw h => ?_)
                exact rt_i (pc := 175) C hr hlk h hw dX9_job_175
            · have hw := hw.2 c11
              refine lv_aload_n (pc := 153) C.1 C.2.1 dX9_job_153 rfl (lv_at hl 1 rfl) ?_
              refine lv_bipush (v := -2) (pc := 154) C.1 C.2.1 dX9_job_154 (by decide) ?_
              refine cl_vi (pc := 156) (As := [.int ((-2 : Int32))]) (rest := []) C h (m_X9_told l D t a ((-2 : Int32)) z1 _ hw) mw_X9_told lm_X9_162 md_X9_told rcM_0 ⟨by decide, by decide⟩ ⟨Nat.zero_le _, Nat.zero_le _⟩ hl.1 rfl (Nat.le_of_ble_eq_true rfl) dX9_job_156 (fun r29 z28 H locs hw h => ?_)
              exact rt_i (pc := 159) C hr hlk h hw dX9_job_159
          · have hw := hw.2 c8
            refine lv_aload_n (pc := 139) C.1 C.2.1 dX9_job_139 rfl (lv_at hl 1 rfl) ?_
            refine lv_iconst (v := -1) (pc := 140) C.1 C.2.1 dX9_job_140 (by decide) ?_
            refine cl_vi (pc := 141) (As := [.int ((-1 : Int32))]) (rest := []) C h (m_X9_told l D t a ((-1 : Int32)) z1 _ hw) mw_X9_told lm_X9_162 md_X9_told rcM_0 ⟨by decide, by decide⟩ ⟨Nat.zero_le _, Nat.zero_le _⟩ hl.1 rfl (Nat.le_of_ble_eq_true rfl) dX9_job_141 (fun r31 z30 H locs hw h => ?_)
            exact rt_i (pc := 144) C hr hlk h hw dX9_job_144)
      have hw := hw (∀ (H : Heap) (locs : List Loc) (ls : Array Slot), wd D t A s (wM t a z1) H locs → lv_has ls 10 [(0, .ref (a 0)), (1, .int b1), (2, .int b2), (3, .int b3), (4, .int b4), (5, .int b5), (6, .int b6), (7, .int b7), (8, .int b8)] → W p l e (rmd 2) s m args below meth c H locs 0 0 (QI D t A (wM t a) P below args s) (F0 m 131 ls [])) (by
          intro hw H locs ls h hl
          refine lv_iconst (v := 0) (pc := 131) C.1 C.2.1 dX9_job_131 (by decide) ?_
          exact hw _ _ _ h (lv_sub hl [0, 1, 2, 3, 4, 5, 6, 7, 8] rfl))
      refine lv_if_eq (tgt := 131) (pc := 67) C.1 C.2.1 dX9_job_67 (by decide) (fun c33 => ?_) (fun c33 => ?_)
      · have hw := hw.1 c33
        exact hw _ _ _ h (lv_sub hl [1, 2, 3, 4, 5, 6, 7, 8, 9] rfl)
      · have hw := hw.2 c33
        refine lv_iload (pc := 70) C.1 C.2.1 dX9_job_70 (lv_at hl 5 rfl) ?_
        refine lv_iconst (v := 2) (pc := 72) C.1 C.2.1 dX9_job_72 (by decide) ?_
        have hw := hw (∀ (H : Heap) (locs : List Loc) (ls : Array Slot), wd D t A s (wM t a z1) H locs → lv_has ls 10 [(0, .ref (a 0)), (1, .int b1), (2, .int b2), (3, .int b3), (4, .int b4), (5, .int b5), (6, .int b6), (7, .int b7), (8, .int b8)] → W p l e (rmd 2) s m args below meth c H locs 0 0 (QI D t A (wM t a) P below args s) (F0 m 89 ls [])) (by
            intro hw H locs ls h hl
            refine lv_iload (pc := 89) C.1 C.2.1 dX9_job_89 (lv_at hl 4 rfl) ?_
            refine lv_iconst (v := 3) (pc := 91) C.1 C.2.1 dX9_job_91 (by decide) ?_
            have hw := hw (∀ (H : Heap) (locs : List Loc) (ls : Array Slot), wd D t A s (wM t a z1) H locs → lv_has ls 10 [(0, .ref (a 0)), (1, .int b1), (2, .int b2), (3, .int b3), (4, .int b4), (5, .int b5), (6, .int b6), (7, .int b7), (8, .int b8)] → W p l e (rmd 2) s m args below meth c H locs 0 0 (QI D t A (wM t a) P below args s) (F0 m 108 ls [])) (by
                intro hw H locs ls h hl
                refine lv_iload (pc := 108) C.1 C.2.1 dX9_job_108 (lv_at hl 4 rfl) ?_
                refine lv_iconst (v := 4) (pc := 110) C.1 C.2.1 dX9_job_110 (by decide) ?_
                have hw := hw (∀ (H : Heap) (locs : List Loc) (ls : Array Slot), wd D t A s (wM t a z1) H locs → lv_has ls 10 [(0, .ref (a 0)), (1, .int b1), (2, .int b2), (3, .int b3), (4, .int b4), (5, .int b5), (6, .int b6), (7, .int b7), (8, .int b8)] → W p l e (rmd 2) s m args below meth c H locs 0 0 (QI D t A (wM t a) P below args s) (F0 m 127 ls [])) (by
                    intro hw H locs ls h hl
                    refine lv_iconst (v := 1) (pc := 127) C.1 C.2.1 dX9_job_127 (by decide) ?_
                    refine lv_goto (tgt := 132) (pc := 128) C.1 C.2.1 dX9_job_128 (by decide) ?_
                    exact hw _ _ _ h (lv_sub hl [0, 1, 2, 3, 4, 5, 6, 7, 8] rfl))
                refine lv_icmp_lt (tgt := 127) (pc := 111) C.1 C.2.1 dX9_job_111 (by decide) (fun c37 => ?_) (fun c37 => ?_)
                · have hw := hw.1 c37
                  exact hw _ _ _ h (lv_sub hl [0, 1, 2, 3, 4, 5, 6, 7, 8] rfl)
                · have hw := hw.2 c37
                  refine lv_iload (pc := 114) C.1 C.2.1 dX9_job_114 (lv_at hl 8 rfl) ?_
                  refine lv_i2l (pc := 116) C.1 C.2.1 dX9_job_116 rfl ?_
                  refine lv_lconst (v := 0) (pc := 117) C.1 C.2.1 dX9_job_117 (by decide) ?_
                  refine lv_ldc2 (pc := 118) C.1 C.2.1 C.2.2.2.1 (C.2.2.2.2 _ lc_X9_184) dX9_job_118 ?_
                  refine cl_si (pc := 121) (As := [.long (Int32.toInt64 b8), .long ((0 : Int64)), .long ((5000 : Int64))]) (rest := []) C h (m_X9_in l D t a (Int32.toInt64 b8) ((0 : Int64)) ((5000 : Int64)) z1 _ hw) mw_X9_in lm_X9_139 md_X9_in ⟨by decide, by decide⟩ ⟨Nat.zero_le _, Nat.zero_le _⟩ hl.1 rfl (Nat.le_of_ble_eq_true rfl) dX9_job_121 (fun r39 z38 H locs hw h => ?_)
                  rw [hw.1] at h
                  have hw := hw.2
                  refine lv_if_eq (tgt := 131) (pc := 124) C.1 C.2.1 dX9_job_124 (by decide) (fun c40 => ?_) (fun c40 => ?_)
                  · have hw := hw.1 c40
                    exact hw _ _ _ h (lv_sub hl [0, 1, 2, 3, 4, 5, 6, 7, 8] rfl)
                  · have hw := hw.2 c40
                    exact hw _ _ _ h (lv_sub hl [0, 1, 2, 3, 4, 5, 6, 7, 8] rfl))
            refine lv_icmp_lt (tgt := 108) (pc := 92) C.1 C.2.1 dX9_job_92 (by decide) (fun c41 => ?_) (fun c41 => ?_)
            · have hw := hw.1 c41
              exact hw _ _ _ h (lv_sub hl [0, 1, 2, 3, 4, 5, 6, 7, 8] rfl)
            · have hw := hw.2 c41
              refine lv_iload (pc := 95) C.1 C.2.1 dX9_job_95 (lv_at hl 7 rfl) ?_
              refine lv_i2l (pc := 97) C.1 C.2.1 dX9_job_97 rfl ?_
              refine lv_lconst (v := 0) (pc := 98) C.1 C.2.1 dX9_job_98 (by decide) ?_
              refine lv_ldc2 (pc := 99) C.1 C.2.1 C.2.2.2.1 (C.2.2.2.2 _ lc_X9_184) dX9_job_99 ?_
              refine cl_si (pc := 102) (As := [.long (Int32.toInt64 b7), .long ((0 : Int64)), .long ((5000 : Int64))]) (rest := []) C h (m_X9_in l D t a (Int32.toInt64 b7) ((0 : Int64)) ((5000 : Int64)) z1 _ hw) mw_X9_in lm_X9_139 md_X9_in ⟨by decide, by decide⟩ ⟨Nat.zero_le _, Nat.zero_le _⟩ hl.1 rfl (Nat.le_of_ble_eq_true rfl) dX9_job_102 (fun r43 z42 H locs hw h => ?_)
              rw [hw.1] at h
              have hw := hw.2
              refine lv_if_eq (tgt := 131) (pc := 105) C.1 C.2.1 dX9_job_105 (by decide) (fun c44 => ?_) (fun c44 => ?_)
              · have hw := hw.1 c44
                exact hw _ _ _ h (lv_sub hl [0, 1, 2, 3, 4, 5, 6, 7, 8] rfl)
              · have hw := hw.2 c44
                exact hw _ _ _ h (lv_sub hl [0, 1, 2, 3, 4, 5, 6, 7, 8] rfl))
        refine lv_icmp_lt (tgt := 89) (pc := 73) C.1 C.2.1 dX9_job_73 (by decide) (fun c45 => ?_) (fun c45 => ?_)
        · have hw := hw.1 c45
          exact hw _ _ _ h (lv_sub hl [1, 2, 3, 4, 5, 6, 7, 8, 9] rfl)
        · have hw := hw.2 c45
          refine lv_iload (pc := 76) C.1 C.2.1 dX9_job_76 (lv_at hl 7 rfl) ?_
          refine lv_i2l (pc := 78) C.1 C.2.1 dX9_job_78 rfl ?_
          refine lv_lconst (v := 0) (pc := 79) C.1 C.2.1 dX9_job_79 (by decide) ?_
          refine lv_ldc2 (pc := 80) C.1 C.2.1 C.2.2.2.1 (C.2.2.2.2 _ lc_X9_184) dX9_job_80 ?_
          refine cl_si (pc := 83) (As := [.long (Int32.toInt64 b6), .long ((0 : Int64)), .long ((5000 : Int64))]) (rest := []) C h (m_X9_in l D t a (Int32.toInt64 b6) ((0 : Int64)) ((5000 : Int64)) z1 _ hw) mw_X9_in lm_X9_139 md_X9_in ⟨by decide, by decide⟩ ⟨Nat.zero_le _, Nat.zero_le _⟩ hl.1 rfl (Nat.le_of_ble_eq_true rfl) dX9_job_83 (fun r47 z46 H locs hw h => ?_)
          rw [hw.1] at h
          have hw := hw.2
          refine lv_if_eq (tgt := 131) (pc := 86) C.1 C.2.1 dX9_job_86 (by decide) (fun c48 => ?_) (fun c48 => ?_)
          · have hw := hw.1 c48
            exact hw _ _ _ h (lv_sub hl [1, 2, 3, 4, 5, 6, 7, 8, 9] rfl)
          · have hw := hw.2 c48
            exact hw _ _ _ h (lv_sub hl [1, 2, 3, 4, 5, 6, 7, 8, 9] rfl))
  have hw := hw (∀ (H : Heap) (locs : List Loc) (ls : Array Slot), wd D t A s (wM t a z1) H locs → lv_has ls 10 [(0, .ref (a 0)), (1, .int b1), (2, .int b2), (3, .int b3), (4, .int b4), (5, .int b5), (6, .int b6), (7, .int b7), (8, .int b8)] → W p l e (rmd 2) s m args below meth c H locs 0 0 (QI D t A (wM t a) P below args s) (F0 m 62 ls [])) (by
      intro hw H locs ls h hl
      refine lv_iconst (v := 0) (pc := 62) C.1 C.2.1 dX9_job_62 (by decide) ?_
      exact hw _ _ _ h (lv_sub hl [0, 1, 2, 3, 4, 5, 6, 7, 8] rfl))
  refine lv_if_eq (tgt := 62) (pc := 9) C.1 C.2.1 dX9_job_9 (by decide) (fun c50 => ?_) (fun c50 => ?_)
  · have hw := hw.1 c50
    exact hw _ _ _ h (lv_sub hl [0, 1, 2, 3, 4, 5, 6, 7, 8] rfl)
  · have hw := hw.2 c50
    refine lv_iload_n (pc := 12) C.1 C.2.1 dX9_job_12 rfl (lv_at hl 3 rfl) ?_
    refine cl_si (pc := 13) (As := [.int b3]) (rest := []) C h (m_X9_isHour l D t a b3 z1 _ hw) mw_X9_isHour lm_X9_151 md_X9_isHour ⟨by decide, by decide⟩ ⟨Nat.zero_le _, Nat.zero_le _⟩ hl.1 rfl (Nat.le_of_ble_eq_true rfl) dX9_job_13 (fun r52 z51 H locs hw h => ?_)
    rw [hw.1] at h
    have hw := hw.2
    refine lv_if_eq (tgt := 62) (pc := 16) C.1 C.2.1 dX9_job_16 (by decide) (fun c53 => ?_) (fun c53 => ?_)
    · have hw := hw.1 c53
      exact hw _ _ _ h (lv_sub hl [0, 1, 2, 3, 4, 5, 6, 7, 8] rfl)
    · have hw := hw.2 c53
      refine lv_iload_n (pc := 19) C.1 C.2.1 dX9_job_19 rfl (lv_at hl 2 rfl) ?_
      refine lv_iload_n (pc := 20) C.1 C.2.1 dX9_job_20 rfl (lv_at hl 3 rfl) ?_
      refine lv_icmp_gt (tgt := 62) (pc := 21) C.1 C.2.1 dX9_job_21 (by decide) (fun c54 => ?_) (fun c54 => ?_)
      · have hw := hw.1 c54
        exact hw _ _ _ h (lv_sub hl [0, 1, 2, 3, 4, 5, 6, 7, 8] rfl)
      · have hw := hw.2 c54
        refine lv_iload_n (pc := 24) C.1 C.2.1 dX9_job_24 rfl (lv_at hl 3 rfl) ?_
        refine lv_iload_n (pc := 25) C.1 C.2.1 dX9_job_25 rfl (lv_at hl 2 rfl) ?_
        refine lv_isub (pc := 26) C.1 C.2.1 dX9_job_26 ?_
        refine lv_bipush (v := 23) (pc := 27) C.1 C.2.1 dX9_job_27 (by decide) ?_
        refine lv_icmp_gt (tgt := 62) (pc := 29) C.1 C.2.1 dX9_job_29 (by decide) (fun c55 => ?_) (fun c55 => ?_)
        · have hw := hw.1 c55
          exact hw _ _ _ h (lv_sub hl [0, 1, 2, 3, 4, 5, 6, 7, 8] rfl)
        · have hw := hw.2 c55
          refine lv_iload (pc := 32) C.1 C.2.1 dX9_job_32 (lv_at hl 4 rfl) ?_
          refine lv_i2l (pc := 34) C.1 C.2.1 dX9_job_34 rfl ?_
          refine lv_lconst (v := 1) (pc := 35) C.1 C.2.1 dX9_job_35 (by decide) ?_
          refine lv_ldc2 (pc := 36) C.1 C.2.1 C.2.2.2.1 (C.2.2.2.2 _ lc_X9_191) dX9_job_36 ?_
          refine cl_si (pc := 39) (As := [.long (Int32.toInt64 b4), .long ((1 : Int64)), .long ((4 : Int64))]) (rest := []) C h (m_X9_in l D t a (Int32.toInt64 b4) ((1 : Int64)) ((4 : Int64)) z1 _ hw) mw_X9_in lm_X9_139 md_X9_in ⟨by decide, by decide⟩ ⟨Nat.zero_le _, Nat.zero_le _⟩ hl.1 rfl (Nat.le_of_ble_eq_true rfl) dX9_job_39 (fun r57 z56 H locs hw h => ?_)
          rw [hw.1] at h
          have hw := hw.2
          refine lv_if_eq (tgt := 62) (pc := 42) C.1 C.2.1 dX9_job_42 (by decide) (fun c58 => ?_) (fun c58 => ?_)
          · have hw := hw.1 c58
            exact hw _ _ _ h (lv_sub hl [0, 1, 2, 3, 4, 5, 6, 7, 8] rfl)
          · have hw := hw.2 c58
            refine lv_iload (pc := 45) C.1 C.2.1 dX9_job_45 (lv_at hl 5 rfl) ?_
            refine lv_i2l (pc := 47) C.1 C.2.1 dX9_job_47 rfl ?_
            refine lv_lconst (v := 0) (pc := 48) C.1 C.2.1 dX9_job_48 (by decide) ?_
            refine lv_ldc2 (pc := 49) C.1 C.2.1 C.2.2.2.1 (C.2.2.2.2 _ lc_X9_184) dX9_job_49 ?_
            refine cl_si (pc := 52) (As := [.long (Int32.toInt64 b5), .long ((0 : Int64)), .long ((5000 : Int64))]) (rest := []) C h (m_X9_in l D t a (Int32.toInt64 b5) ((0 : Int64)) ((5000 : Int64)) z1 _ hw) mw_X9_in lm_X9_139 md_X9_in ⟨by decide, by decide⟩ ⟨Nat.zero_le _, Nat.zero_le _⟩ hl.1 rfl (Nat.le_of_ble_eq_true rfl) dX9_job_52 (fun r60 z59 H locs hw h => ?_)
            rw [hw.1] at h
            have hw := hw.2
            refine lv_if_eq (tgt := 62) (pc := 55) C.1 C.2.1 dX9_job_55 (by decide) (fun c61 => ?_) (fun c61 => ?_)
            · have hw := hw.1 c61
              exact hw _ _ _ h (lv_sub hl [0, 1, 2, 3, 4, 5, 6, 7, 8] rfl)
            · have hw := hw.2 c61
              refine lv_iconst (v := 1) (pc := 58) C.1 C.2.1 dX9_job_58 (by decide) ?_
              refine lv_goto (tgt := 63) (pc := 59) C.1 C.2.1 dX9_job_59 (by decide) ?_
              exact hw _ _ _ h (lv_sub hl [0, 1, 2, 3, 4, 5, 6, 7, 8] rfl)

def wp_X9_isJob (b1 : Int32) (z : St) (P : Int32 → Prop) : Prop :=
  (wp_X9_in (Int32.toInt64 b1) ((0 : Int64)) ((Int32.toInt64 (gI z 12)) - ((1 : Int64))) z (fun r2 => ((r2 = 0 ∨ r2 = 1) ∧ P r2)))
set_option maxHeartbeats 4000000 in
set_option maxRecDepth 100000 in
theorem m_X9_isJob (l : Launch) (D : va_G) (t : Ty3) (a : Nat → Nat) (b1 : Int32) (z : St) (P : Int32 → Prop) (hw : wp_X9_isJob b1 z P) : CtI l D t yX9_isJob cX9_isJob 2 (some .boolean) 1 (wM t a) (wM t a z) [.ref (a 0), .int b1] (fun rr zz => zz = z ∧ P rr) := by
  refine ctI_of (by decide) (Nat.le_of_ble_eq_true rfl) ?_
  intro p e s m args below meth c A ls C hr hlk h hl
  have hl : lv_has ls 2 [(0, .ref (a 0)), (1, .int b1)] := hl
  unfold wp_X9_isJob at hw
  refine lv_iload_n (pc := 0) C.1 C.2.1 dX9_isJob_0 rfl (lv_at hl 1 rfl) ?_
  refine lv_i2l (pc := 1) C.1 C.2.1 dX9_isJob_1 rfl ?_
  refine lv_lconst (v := 0) (pc := 2) C.1 C.2.1 dX9_isJob_2 (by decide) ?_
  refine lv_aload_n (pc := 3) C.1 C.2.1 dX9_isJob_3 rfl (lv_at hl 0 rfl) ?_
  refine GM_X9_148_0 (pc := 4) C h dX9_isJob_4 ?_
  refine lv_i2l (pc := 7) C.1 C.2.1 dX9_isJob_7 rfl ?_
  refine lv_lconst (v := 1) (pc := 8) C.1 C.2.1 dX9_isJob_8 (by decide) ?_
  refine lv_lsub (pc := 9) C.1 C.2.1 dX9_isJob_9 ?_
  refine cl_si (pc := 10) (As := [.long (Int32.toInt64 b1), .long ((0 : Int64)), .long ((Int32.toInt64 (gI z 12)) - ((1 : Int64)))]) (rest := []) C h (m_X9_in l D t a (Int32.toInt64 b1) ((0 : Int64)) ((Int32.toInt64 (gI z 12)) - ((1 : Int64))) z _ hw) mw_X9_in lm_X9_139 md_X9_in ⟨by decide, by decide⟩ ⟨Nat.zero_le _, Nat.zero_le _⟩ hl.1 rfl (Nat.le_of_ble_eq_true rfl) dX9_isJob_10 (fun r2 z1 H locs hw h => ?_)
  rw [hw.1] at h
  have hw := hw.2
  exact rt_z (pc := 13) C hr hlk h hw.1 ⟨rfl, hw.2⟩ dX9_isJob_13
