set_option maxHeartbeats 2000000 in
theorem s_X4_readQuiet_52  (z : St) (P : Int32 → St → Prop) (ht : TX z) (hrx : DG z) (h0 : (gI z 3702).toInt ≤ (gI z 3703).toInt) (h1 : (gI z 3703).toInt ≤ (gI z 3701).toInt) (hk : ∀ (r : Int32) (z2 : St), TX z2 → Same [3702, 3703] [53] z z2 → DG z2 → ((r = 1 ∧ ((gI z2 3702).toInt ≤ (gI z2 3703).toInt ∧ (gI z2 3703).toInt ≤ (gI z 3701).toInt)) ∨ (r = 0 ∧ ((gI z2 3702).toInt ≤ (gI z2 3703).toInt ∧ (gI z2 3703).toInt ≤ (gI z 3701).toInt))) → P r z2) : wp_X4_readQuiet_52  z P := by
  unfold wp_X4_readQuiet_52
  have g_1 : (3 : Int32).toInt = 3 := by decide
  have f_2 : 0 ≤ (gI z 3702).toInt ∧ (gI z 3702).toInt ≤ 300 := ht.1 3702
  have f_3 : 0 ≤ (gI z 3703).toInt ∧ (gI z 3703).toInt ≤ 300 := ht.1 3703
  have f_4 : 0 ≤ (gI z 3701).toInt ∧ (gI z 3701).toInt ≤ 300 := ht.1 3701
  refine s_X4_takeNumber ((3 : Int32)) z _ ht hrx (by omega) (by omega) (fun r2 z1 tz1 o_6 xz1 hp_5 => ?_)
  have oz1 : Same [3702, 3703] [53] z z1 := (Same.rf (z := z)).tr o_6 (by decide) (by decide)
  have f_7 : 0 ≤ (gI z1 3702).toInt ∧ (gI z1 3702).toInt ≤ 300 := tz1.1 3702
  have f_8 : 0 ≤ (gI z1 3703).toInt ∧ (gI z1 3703).toInt ≤ 300 := tz1.1 3703
  refine ⟨fun c3 => ?_, fun c3 => ?_⟩
  · skip
    have i_9 := i_eq rfl (show (-1 : Int32).toInt = -1 by decide) c3
    have g_10 : (0 : Int32).toInt = 0 := by decide
    exact hk ((0 : Int32)) z1 tz1 oz1 xz1 (Or.inr ⟨rfl, (by omega)⟩)
  · skip
    have i_11 := i_ne rfl (show (-1 : Int32).toInt = -1 by decide) c3
    have f_12 : 0 ≤ (gI z1 3701).toInt ∧ (gI z1 3701).toInt ≤ 300 := tz1.1 3701
    have q_13 := (o_6.fi 3701 (by decide))
    refine s_X4_take_s3  z1 _ tz1 xz1 (by omega) (by omega) (fun r5 z4 tz4 o_15 xz4 hp_14 => ?_)
    have oz4 : Same [3702, 3703] [53] z z4 := oz1.tr o_15 (by decide) (by decide)
    rcases hp_14 with ⟨er5, hp_14⟩ | ⟨er5, hp_14⟩
    · subst er5
      have f_16 : 0 ≤ (gI z4 3702).toInt ∧ (gI z4 3702).toInt ≤ 300 := tz4.1 3702
      have f_17 : 0 ≤ (gI z4 3703).toInt ∧ (gI z4 3703).toInt ≤ 300 := tz4.1 3703
      refine ⟨fun _ => ?_, fun hc => absurd hc (by decide)⟩
      have g_18 : (23 : Int32).toInt = 23 := by decide
      have f_19 : 0 ≤ (gI z4 3701).toInt ∧ (gI z4 3701).toInt ≤ 300 := tz4.1 3701
      have q_20 := ((o_15.fi 3701 (by decide))).trans (o_6.fi 3701 (by decide))
      refine s_X4_takeNumber ((23 : Int32)) z4 _ tz4 xz4 (by omega) (by omega) (fun r8 z7 tz7 o_22 xz7 hp_21 => ?_)
      have oz7 : Same [3702, 3703] [53] z z7 := oz4.tr o_22 (by decide) (by decide)
      have f_23 : 0 ≤ (gI z7 3702).toInt ∧ (gI z7 3702).toInt ≤ 300 := tz7.1 3702
      have f_24 : 0 ≤ (gI z7 3703).toInt ∧ (gI z7 3703).toInt ≤ 300 := tz7.1 3703
      refine ⟨fun c9 => ?_, fun c9 => ?_⟩
      · skip
        have i_25 := i_eq rfl (show (-1 : Int32).toInt = -1 by decide) c9
        have g_26 : (0 : Int32).toInt = 0 := by decide
        exact hk ((0 : Int32)) z7 tz7 oz7 xz7 (Or.inr ⟨rfl, (by omega)⟩)
      · skip
        have i_27 := i_ne rfl (show (-1 : Int32).toInt = -1 by decide) c9
        have f_28 : 0 ≤ (gI z7 3701).toInt ∧ (gI z7 3701).toInt ≤ 300 := tz7.1 3701
        have q_29 := (((o_22.fi 3701 (by decide))).trans (o_15.fi 3701 (by decide))).trans (o_6.fi 3701 (by decide))
        refine s_X4_take_s4  z7 _ tz7 xz7 (by omega) (by omega) (fun r11 z10 tz10 o_31 xz10 hp_30 => ?_)
        have oz10 : Same [3702, 3703] [53] z z10 := oz7.tr o_31 (by decide) (by decide)
        rcases hp_30 with ⟨er11, hp_30⟩ | ⟨er11, hp_30⟩
        · subst er11
          have f_32 : 0 ≤ (gI z10 3702).toInt ∧ (gI z10 3702).toInt ≤ 300 := tz10.1 3702
          have f_33 : 0 ≤ (gI z10 3703).toInt ∧ (gI z10 3703).toInt ≤ 300 := tz10.1 3703
          refine ⟨fun _ => ?_, fun hc => absurd hc (by decide)⟩
          have g_34 : (23 : Int32).toInt = 23 := by decide
          have f_35 : 0 ≤ (gI z10 3701).toInt ∧ (gI z10 3701).toInt ≤ 300 := tz10.1 3701
          have q_36 := ((((o_31.fi 3701 (by decide))).trans (o_22.fi 3701 (by decide))).trans (o_15.fi 3701 (by decide))).trans (o_6.fi 3701 (by decide))
          refine s_X4_takeNumber ((23 : Int32)) z10 _ tz10 xz10 (by omega) (by omega) (fun r14 z13 tz13 o_38 xz13 hp_37 => ?_)
          have oz13 : Same [3702, 3703] [53] z z13 := oz10.tr o_38 (by decide) (by decide)
          have f_39 : 0 ≤ (gI z13 3702).toInt ∧ (gI z13 3702).toInt ≤ 300 := tz13.1 3702
          have f_40 : 0 ≤ (gI z13 3703).toInt ∧ (gI z13 3703).toInt ≤ 300 := tz13.1 3703
          refine ⟨fun c15 => ?_, fun c15 => ?_⟩
          · skip
            have i_41 := i_ne rfl (show (-1 : Int32).toInt = -1 by decide) c15
            refine s_X5_addQuiet_c52 r2 r8 r14 z13 _ tz13 (by omega) (fun z16 tz16 o_43 hp_42 => ?_)
            have oz16 : Same [3702, 3703] [53] z z16 := oz13.tr o_43 (by decide) (by decide)
            have xz16 : DG z16 := DG_same xz13 o_43 (by decide) (by decide) (by decide)
            have g_44 : (1 : Int32).toInt = 1 := by decide
            have f_45 : 0 ≤ (gI z16 3702).toInt ∧ (gI z16 3702).toInt ≤ 300 := tz16.1 3702
            have q_46 := (o_43.fi 3702 (by decide))
            have f_47 : 0 ≤ (gI z16 3703).toInt ∧ (gI z16 3703).toInt ≤ 300 := tz16.1 3703
            have q_48 := (o_43.fi 3703 (by decide))
            exact hk ((1 : Int32)) z16 tz16 oz16 xz16 (Or.inl ⟨rfl, (by omega)⟩)
          · skip
            have i_49 := i_eq rfl (show (-1 : Int32).toInt = -1 by decide) c15
            have g_50 : (0 : Int32).toInt = 0 := by decide
            exact hk ((0 : Int32)) z13 tz13 oz13 xz13 (Or.inr ⟨rfl, (by omega)⟩)
        · subst er11
          have f_51 : 0 ≤ (gI z10 3702).toInt ∧ (gI z10 3702).toInt ≤ 300 := tz10.1 3702
          have f_52 : 0 ≤ (gI z10 3703).toInt ∧ (gI z10 3703).toInt ≤ 300 := tz10.1 3703
          refine ⟨fun hc => absurd hc (by decide), fun _ => ?_⟩
          have g_53 : (0 : Int32).toInt = 0 := by decide
          exact hk ((0 : Int32)) z10 tz10 oz10 xz10 (Or.inr ⟨rfl, (by omega)⟩)
    · subst er5
      have f_54 : 0 ≤ (gI z4 3702).toInt ∧ (gI z4 3702).toInt ≤ 300 := tz4.1 3702
      have f_55 : 0 ≤ (gI z4 3703).toInt ∧ (gI z4 3703).toInt ≤ 300 := tz4.1 3703
      refine ⟨fun hc => absurd hc (by decide), fun _ => ?_⟩
      have g_56 : (0 : Int32).toInt = 0 := by decide
      exact hk ((0 : Int32)) z4 tz4 oz4 xz4 (Or.inr ⟨rfl, (by omega)⟩)

set_option maxHeartbeats 2000000 in
theorem s_X4_readRule_52  (z : St) (P : Int32 → St → Prop) (ht : TX z) (hrx : DG z) (h0 : (gI z 3702).toInt ≤ (gI z 3703).toInt) (h1 : (gI z 3703).toInt ≤ (gI z 3701).toInt) (hk : ∀ (r : Int32) (z2 : St), TX z2 → Same [3702, 3703, 5202] [53, 54] z z2 → DG z2 → ((r = 1 ∧ ((gI z2 3702).toInt ≤ (gI z2 3703).toInt ∧ (gI z2 3703).toInt ≤ (gI z 3701).toInt)) ∨ (r = 0 ∧ ((gI z2 3702).toInt ≤ (gI z2 3703).toInt ∧ (gI z2 3703).toInt ≤ (gI z 3701).toInt))) → P r z2) : wp_X4_readRule_52  z P := by
  unfold wp_X4_readRule_52
  have f_1 : 0 ≤ (gI z 3702).toInt ∧ (gI z 3702).toInt ≤ 300 := ht.1 3702
  have f_2 : 0 ≤ (gI z 3703).toInt ∧ (gI z 3703).toInt ≤ 300 := ht.1 3703
  have f_3 : 0 ≤ (gI z 3701).toInt ∧ (gI z 3701).toInt ≤ 300 := ht.1 3701
  refine s_X4_take_s0  z _ ht hrx (by omega) (by omega) (fun r2 z1 tz1 o_5 xz1 hp_4 => ?_)
  have oz1 : Same [3702, 3703, 5202] [53, 54] z z1 := (Same.rf (z := z)).tr o_5 (by decide) (by decide)
  rcases hp_4 with ⟨er2, hp_4⟩ | ⟨er2, hp_4⟩
  · subst er2
    have f_6 : 0 ≤ (gI z1 3702).toInt ∧ (gI z1 3702).toInt ≤ 300 := tz1.1 3702
    have f_7 : 0 ≤ (gI z1 3703).toInt ∧ (gI z1 3703).toInt ≤ 300 := tz1.1 3703
    refine ⟨fun hc => absurd hc (by decide), fun _ => ?_⟩
    have f_8 : 0 ≤ (gI z1 3701).toInt ∧ (gI z1 3701).toInt ≤ 300 := tz1.1 3701
    have q_9 := (o_5.fi 3701 (by decide))
    refine s_X4_readQuiet_52  z1 _ tz1 xz1 (by omega) (by omega) (fun r16 z15 tz15 o_11 xz15 hp_10 => ?_)
    have oz15 : Same [3702, 3703, 5202] [53, 54] z z15 := oz1.tr o_11 (by decide) (by decide)
    rcases hp_10 with ⟨er16, hp_10⟩ | ⟨er16, hp_10⟩
    · subst er16
      have f_12 : 0 ≤ (gI z15 3702).toInt ∧ (gI z15 3702).toInt ≤ 300 := tz15.1 3702
      have f_13 : 0 ≤ (gI z15 3703).toInt ∧ (gI z15 3703).toInt ≤ 300 := tz15.1 3703
      have g_14 : (1 : Int32).toInt = 1 := by decide
      refine ⟨Or.inr rfl, ?_⟩
      exact hk ((1 : Int32)) z15 tz15 oz15 xz15 (Or.inl ⟨rfl, (by omega)⟩)
    · subst er16
      have f_15 : 0 ≤ (gI z15 3702).toInt ∧ (gI z15 3702).toInt ≤ 300 := tz15.1 3702
      have f_16 : 0 ≤ (gI z15 3703).toInt ∧ (gI z15 3703).toInt ≤ 300 := tz15.1 3703
      have g_17 : (0 : Int32).toInt = 0 := by decide
      refine ⟨Or.inl rfl, ?_⟩
      exact hk ((0 : Int32)) z15 tz15 oz15 xz15 (Or.inr ⟨rfl, (by omega)⟩)
  · subst er2
    have f_18 : 0 ≤ (gI z1 3702).toInt ∧ (gI z1 3702).toInt ≤ 300 := tz1.1 3702
    have f_19 : 0 ≤ (gI z1 3703).toInt ∧ (gI z1 3703).toInt ≤ 300 := tz1.1 3703
    refine ⟨fun _ => ?_, fun hc => absurd (show ((0 : Int32)) = ((0 : Int32)) by decide) hc⟩
    have f_20 : 0 ≤ (gI z1 3701).toInt ∧ (gI z1 3701).toInt ≤ 300 := tz1.1 3701
    have q_21 := (o_5.fi 3701 (by decide))
    refine s_X4_take_s1  z1 _ tz1 xz1 (by omega) (by omega) (fun r5 z4 tz4 o_23 xz4 hp_22 => ?_)
    have oz4 : Same [3702, 3703, 5202] [53, 54] z z4 := oz1.tr o_23 (by decide) (by decide)
    rcases hp_22 with ⟨er5, hp_22⟩ | ⟨er5, hp_22⟩
    · subst er5
      have f_24 : 0 ≤ (gI z4 3702).toInt ∧ (gI z4 3702).toInt ≤ 300 := tz4.1 3702
      have f_25 : 0 ≤ (gI z4 3703).toInt ∧ (gI z4 3703).toInt ≤ 300 := tz4.1 3703
      refine ⟨fun hc => absurd hc (by decide), fun _ => ?_⟩
      have f_26 : 0 ≤ (gI z4 3701).toInt ∧ (gI z4 3701).toInt ≤ 300 := tz4.1 3701
      have q_27 := ((o_23.fi 3701 (by decide))).trans (o_5.fi 3701 (by decide))
      refine s_X4_readDear_52  z4 _ tz4 xz4 (by omega) (by omega) (fun r14 z13 tz13 o_29 xz13 hp_28 => ?_)
      have oz13 : Same [3702, 3703, 5202] [53, 54] z z13 := oz4.tr o_29 (by decide) (by decide)
      rcases hp_28 with ⟨er14, hp_28⟩ | ⟨er14, hp_28⟩
      · subst er14
        have f_30 : 0 ≤ (gI z13 3702).toInt ∧ (gI z13 3702).toInt ≤ 300 := tz13.1 3702
        have f_31 : 0 ≤ (gI z13 3703).toInt ∧ (gI z13 3703).toInt ≤ 300 := tz13.1 3703
        have g_32 : (1 : Int32).toInt = 1 := by decide
        refine ⟨Or.inr rfl, ?_⟩
        exact hk ((1 : Int32)) z13 tz13 oz13 xz13 (Or.inl ⟨rfl, (by omega)⟩)
      · subst er14
        have f_33 : 0 ≤ (gI z13 3702).toInt ∧ (gI z13 3702).toInt ≤ 300 := tz13.1 3702
        have f_34 : 0 ≤ (gI z13 3703).toInt ∧ (gI z13 3703).toInt ≤ 300 := tz13.1 3703
        have g_35 : (0 : Int32).toInt = 0 := by decide
        refine ⟨Or.inl rfl, ?_⟩
        exact hk ((0 : Int32)) z13 tz13 oz13 xz13 (Or.inr ⟨rfl, (by omega)⟩)
    · subst er5
      have f_36 : 0 ≤ (gI z4 3702).toInt ∧ (gI z4 3702).toInt ≤ 300 := tz4.1 3702
      have f_37 : 0 ≤ (gI z4 3703).toInt ∧ (gI z4 3703).toInt ≤ 300 := tz4.1 3703
      refine ⟨fun _ => ?_, fun hc => absurd (show ((0 : Int32)) = ((0 : Int32)) by decide) hc⟩
      have f_38 : 0 ≤ (gI z4 3701).toInt ∧ (gI z4 3701).toInt ≤ 300 := tz4.1 3701
      have q_39 := ((o_23.fi 3701 (by decide))).trans (o_5.fi 3701 (by decide))
      refine s_X4_take_s2  z4 _ tz4 xz4 (by omega) (by omega) (fun r8 z7 tz7 o_41 xz7 hp_40 => ?_)
      have oz7 : Same [3702, 3703, 5202] [53, 54] z z7 := oz4.tr o_41 (by decide) (by decide)
      rcases hp_40 with ⟨er8, hp_40⟩ | ⟨er8, hp_40⟩
      · subst er8
        have f_42 : 0 ≤ (gI z7 3702).toInt ∧ (gI z7 3702).toInt ≤ 300 := tz7.1 3702
        have f_43 : 0 ≤ (gI z7 3703).toInt ∧ (gI z7 3703).toInt ≤ 300 := tz7.1 3703
        refine ⟨fun hc => absurd hc (by decide), fun _ => ?_⟩
        have f_44 : 0 ≤ (gI z7 3701).toInt ∧ (gI z7 3701).toInt ≤ 300 := tz7.1 3701
        have q_45 := (((o_41.fi 3701 (by decide))).trans (o_23.fi 3701 (by decide))).trans (o_5.fi 3701 (by decide))
        refine s_X4_readBefore_52  z7 _ tz7 xz7 (by omega) (by omega) (fun r11 z10 tz10 o_47 xz10 hp_46 => ?_)
        have oz10 : Same [3702, 3703, 5202] [53, 54] z z10 := oz7.tr o_47 (by decide) (by decide)
        rcases hp_46 with ⟨er11, hp_46⟩ | ⟨er11, hp_46⟩
        · subst er11
          have f_48 : 0 ≤ (gI z10 3702).toInt ∧ (gI z10 3702).toInt ≤ 300 := tz10.1 3702
          have f_49 : 0 ≤ (gI z10 3703).toInt ∧ (gI z10 3703).toInt ≤ 300 := tz10.1 3703
          refine ⟨fun hc => absurd hc (by decide), fun _ => ?_⟩
          have g_50 : (1 : Int32).toInt = 1 := by decide
          exact hk ((1 : Int32)) z10 tz10 oz10 xz10 (Or.inl ⟨rfl, (by omega)⟩)
        · subst er11
          have f_51 : 0 ≤ (gI z10 3702).toInt ∧ (gI z10 3702).toInt ≤ 300 := tz10.1 3702
          have f_52 : 0 ≤ (gI z10 3703).toInt ∧ (gI z10 3703).toInt ≤ 300 := tz10.1 3703
          refine ⟨fun _ => ?_, fun hc => absurd (show ((0 : Int32)) = ((0 : Int32)) by decide) hc⟩
          have g_53 : (0 : Int32).toInt = 0 := by decide
          exact hk ((0 : Int32)) z10 tz10 oz10 xz10 (Or.inr ⟨rfl, (by omega)⟩)
      · subst er8
        have f_54 : 0 ≤ (gI z7 3702).toInt ∧ (gI z7 3702).toInt ≤ 300 := tz7.1 3702
        have f_55 : 0 ≤ (gI z7 3703).toInt ∧ (gI z7 3703).toInt ≤ 300 := tz7.1 3703
        refine ⟨fun _ => ?_, fun hc => absurd (show ((0 : Int32)) = ((0 : Int32)) by decide) hc⟩
        have g_56 : (0 : Int32).toInt = 0 := by decide
        exact hk ((0 : Int32)) z7 tz7 oz7 xz7 (Or.inr ⟨rfl, (by omega)⟩)

set_option maxHeartbeats 2000000 in
theorem s_X4_take_s6  (z : St) (P : Int32 → St → Prop) (ht : TX z) (hrx : DG z) (h0 : (gI z 3702).toInt ≤ (gI z 3703).toInt) (h1 : (gI z 3703).toInt ≤ (gI z 3701).toInt) (hk : ∀ (r : Int32) (z2 : St), TX z2 → Same [3702, 3703] [] z z2 → DG z2 → ((r = 1 ∧ ((gI z2 3702).toInt ≤ (gI z2 3703).toInt ∧ (gI z2 3703).toInt ≤ (gI z 3701).toInt)) ∨ (r = 0 ∧ ((gI z2 3702).toInt ≤ (gI z2 3703).toInt ∧ (gI z2 3703).toInt ≤ (gI z 3701).toInt))) → P r z2) : wp_X4_take_s6  z P := by
  unfold wp_X4_take_s6
  refine ⟨fun c3 => ?_, fun c3 => ?_⟩
  · skip
    have f_1 : 0 ≤ (gI z 3703).toInt ∧ (gI z 3703).toInt ≤ 300 := ht.1 3703
    have f_2 : 0 ≤ (gI z 3702).toInt ∧ (gI z 3702).toInt ≤ 300 := ht.1 3702
    have i_3 := i_eq (a_sub rfl rfl (by omega) (by omega)) (show (1 : Int32).toInt = 1 by decide) c3
    intro K5 hK_4
    have L_5 : ∀ (n : Nat) (v4 : Int32), (0 ≤ v4.toInt) → (v4.toInt ≤ 1) → ((gI z 3703).toInt - (gI z 3702).toInt = 1) → (1 - v4.toInt).toNat < n → K5 v4 := by
      intro n
      induction n with
      | zero => intro v4 w_6 w_7 w_8 m_10; omega
      | succ n ih_9 =>
        intro v4 w_6 w_7 w_8 m_10
        refine hK_4 v4 ?_
        refine ⟨fun c8 => ?_, fun c8 => ?_⟩
        · skip
          have i_11 := i_le (show (1 : Int32).toInt = 1 by decide) rfl c8
          have f_12 : 0 ≤ (gI z 3701).toInt ∧ (gI z 3701).toInt ≤ 300 := ht.1 3701
          refine s_X4_next  z _ ht (by omega) (fun z9 tz9 o_14 xz9 hp_13 => ?_)
          have oz9 : Same [3702, 3703] [] z z9 := (Same.rf (z := z)).tr o_14 (by decide) (by decide)
          have f_15 : 0 ≤ (gI z9 3702).toInt ∧ (gI z9 3702).toInt ≤ 300 := tz9.1 3702
          have f_16 : 0 ≤ (gI z9 3703).toInt ∧ (gI z9 3703).toInt ≤ 300 := tz9.1 3703
          have g_17 : (1 : Int32).toInt = 1 := by decide
          exact hk ((1 : Int32)) z9 tz9 oz9 xz9 (Or.inl ⟨rfl, (by omega)⟩)
        · skip
          have i_18 := i_nle (show (1 : Int32).toInt = 1 by decide) rfl c8
          refine ⟨vin (a_add rfl rfl (by omega) (by omega)) (by omega) (by omega), ?_⟩
          refine ⟨vin rfl (by omega) (by omega), ?_⟩
          refine ⟨fun c13 => ?_, fun c13 => ?_⟩
          · skip
            have i_19 := i_eq rfl rfl c13
            intro x14 ex14
            have ix14 : x14.toInt = (v4.toInt + (1)) := by rw [ex14]; exact (a_add rfl (show (1 : Int32).toInt = 1 by decide) (by omega) (by omega))
            exact ih_9 x14 (by omega) (by omega) (by omega) (by omega)
          · skip
            have i_20 := i_ne rfl rfl c13
            have g_21 : (0 : Int32).toInt = 0 := by decide
            have f_22 : 0 ≤ (gI z 3701).toInt ∧ (gI z 3701).toInt ≤ 300 := ht.1 3701
            exact hk ((0 : Int32)) z ht (Same.rf (z := z)) hrx (Or.inr ⟨rfl, (by omega)⟩)
    have g_23 : (0 : Int32).toInt = 0 := by decide
    exact L_5 ((1 - (0 : Int32).toInt).toNat + 1) ((0 : Int32)) (by omega) (by omega) (by omega) (by omega)
  · skip
    have f_24 : 0 ≤ (gI z 3703).toInt ∧ (gI z 3703).toInt ≤ 300 := ht.1 3703
    have f_25 : 0 ≤ (gI z 3702).toInt ∧ (gI z 3702).toInt ≤ 300 := ht.1 3702
    have i_26 := i_ne (a_sub rfl rfl (by omega) (by omega)) (show (1 : Int32).toInt = 1 by decide) c3
    have g_27 : (0 : Int32).toInt = 0 := by decide
    have f_28 : 0 ≤ (gI z 3701).toInt ∧ (gI z 3701).toInt ≤ 300 := ht.1 3701
    exact hk ((0 : Int32)) z ht (Same.rf (z := z)) hrx (Or.inr ⟨rfl, (by omega)⟩)

set_option maxHeartbeats 2000000 in
theorem s_X4_read_52  (z : St) (P : Int32 → St → Prop) (ht : TX z)  (hk : ∀ (r : Int32) (z2 : St), TX z2 → Same [3702, 3703, 5202, 5203] [53, 54] z z2 → ((r = 1 ∧ (True)) ∨ (r = 0 ∧ (True))) → P r z2) : wp_X4_read_52  z P := by
  unfold wp_X4_read_52
  refine s_X5_wipe_c52  z _ ht  (fun z1 tz1 o_2 hp_1 => ?_)
  have oz1 : Same [3702, 3703, 5202, 5203] [53, 54] z z1 := (Same.rf (z := z)).tr o_2 (by decide) (by decide)
  intro z3 ez3
  have tz3 : TX z3 := by rw [ez3]; exact Ty_wI tz1 (show 0 ≤ (0 : Int32).toInt ∧ (0 : Int32).toInt ≤ 300 from by rw [(show (0 : Int32).toInt = 0 by decide)]; omega)
  have oz3 : Same [3702, 3703, 5202, 5203] [53, 54] z z3 := oz1.i (by decide) ez3
  have f_3 : 0 ≤ (gI z3 3703).toInt ∧ (gI z3 3703).toInt ≤ 300 := tz3.1 3703
  have q_4 := (show (gI z3 3703).toInt = (0 : Int32).toInt by rw [ez3]; rfl)
  have q_5 : (0 : Int32).toInt = (0) := (show (0 : Int32).toInt = 0 by decide)
  have f_6 : 0 ≤ (gI z3 3701).toInt ∧ (gI z3 3701).toInt ≤ 300 := tz3.1 3701
  have q_7 := ((show (gI z3 3701).toInt = (gI z1 3701).toInt by rw [ez3]; rfl)).trans (o_2.fi 3701 (by decide))
  have f_8 : 0 ≤ (gI z 3701).toInt ∧ (gI z 3701).toInt ≤ 300 := ht.1 3701
  refine s_X4_next  z3 _ tz3 (by omega) (fun z4 tz4 o_10 xz4 hp_9 => ?_)
  have oz4 : Same [3702, 3703, 5202, 5203] [53, 54] z z4 := oz3.tr o_10 (by decide) (by decide)
  have f_11 : 0 ≤ (gI z4 3702).toInt ∧ (gI z4 3702).toInt ≤ 300 := tz4.1 3702
  have f_12 : 0 ≤ (gI z4 3703).toInt ∧ (gI z4 3703).toInt ≤ 300 := tz4.1 3703
  refine ⟨fun c6 => ?_, fun c6 => ?_⟩
  · skip
    have f_13 : 0 ≤ (gI z4 3701).toInt ∧ (gI z4 3701).toInt ≤ 300 := tz4.1 3701
    have q_14 := (((o_10.fi 3701 (by decide))).trans (show (gI z3 3701).toInt = (gI z1 3701).toInt by rw [ez3]; rfl)).trans (o_2.fi 3701 (by decide))
    have i_15 := i_lt rfl rfl c6
    intro K8 hK_16
    have L_17 : ∀ (n : Nat) (v7 : Int32) (z9 : St), TX z9 → Same [3702, 3703, 5202, 5203] [53, 54] z z9 → DG z9 → (0 ≤ v7.toInt) → (v7.toInt ≤ 20) → ((gI z9 3702).toInt ≤ (gI z9 3703).toInt) → ((gI z9 3703).toInt ≤ (gI z 3701).toInt) → (20 - v7.toInt).toNat < n → K8 v7 z9 := by
      intro n
      induction n with
      | zero => intro v7 z9 tz9 ocz9 xz9 w_18 w_19 w_20 w_21 m_23; omega
      | succ n ih_22 =>
        intro v7 z9 tz9 ocz9 xz9 w_18 w_19 w_20 w_21 m_23
        have f_24 : 0 ≤ (gI z9 3702).toInt ∧ (gI z9 3702).toInt ≤ 300 := tz9.1 3702
        have f_25 : 0 ≤ (gI z9 3703).toInt ∧ (gI z9 3703).toInt ≤ 300 := tz9.1 3703
        refine hK_16 v7 z9 ?_
        refine ⟨fun c10 => ?_, fun c10 => ?_⟩
        · skip
          have i_26 := i_le (show (20 : Int32).toInt = 20 by decide) rfl c10
          have g_27 : (0 : Int32).toInt = 0 := by decide
          exact hk ((0 : Int32)) z9 tz9 ocz9 (Or.inr ⟨rfl, trivial⟩)
        · skip
          have i_28 := i_nle (show (20 : Int32).toInt = 20 by decide) rfl c10
          have f_29 : 0 ≤ (gI z9 3701).toInt ∧ (gI z9 3701).toInt ≤ 300 := tz9.1 3701
          have q_30 := (ocz9.fi 3701 (by decide))
          refine s_X4_readRule_52  z9 _ tz9 xz9 (by omega) (by omega) (fun r12 z11 tz11 o_32 xz11 hp_31 => ?_)
          have oz11 : Same [3702, 3703, 5202, 5203] [53, 54] z z11 := ocz9.tr o_32 (by decide) (by decide)
          rcases hp_31 with ⟨er12, hp_31⟩ | ⟨er12, hp_31⟩
          · subst er12
            have f_33 : 0 ≤ (gI z11 3702).toInt ∧ (gI z11 3702).toInt ≤ 300 := tz11.1 3702
            have f_34 : 0 ≤ (gI z11 3703).toInt ∧ (gI z11 3703).toInt ≤ 300 := tz11.1 3703
            refine ⟨fun _ => ?_, fun hc => absurd hc (by decide)⟩
            intro z14 ez14
            have tz14 : TX z14 := by rw [ez14]; exact Ty_wI tz11 trivial
            have oz14 : Same [3702, 3703, 5202, 5203] [53, 54] z z14 := oz11.i (by decide) ez14
            have xz14 : DG z14 := by rw [ez14]; exact xz11
            refine ⟨fun c15 => ?_, fun c15 => ?_⟩
            · skip
              have f_35 : 0 ≤ (gI z14 3702).toInt ∧ (gI z14 3702).toInt ≤ 300 := tz14.1 3702
              have q_36 := (show (gI z14 3702).toInt = (gI z11 3702).toInt by rw [ez14]; rfl)
              have f_37 : 0 ≤ (gI z14 3701).toInt ∧ (gI z14 3701).toInt ≤ 300 := tz14.1 3701
              have q_38 := (((show (gI z14 3701).toInt = (gI z11 3701).toInt by rw [ez14]; rfl)).trans (o_32.fi 3701 (by decide))).trans (ocz9.fi 3701 (by decide))
              have i_39 := i_lt rfl rfl c15
              have f_40 : 0 ≤ (gI z14 3703).toInt ∧ (gI z14 3703).toInt ≤ 300 := tz14.1 3703
              have q_41 := (show (gI z14 3703).toInt = (gI z11 3703).toInt by rw [ez14]; rfl)
              refine s_X4_take_s6  z14 _ tz14 xz14 (by omega) (by omega) (fun r17 z16 tz16 o_43 xz16 hp_42 => ?_)
              have oz16 : Same [3702, 3703, 5202, 5203] [53, 54] z z16 := oz14.tr o_43 (by decide) (by decide)
              rcases hp_42 with ⟨er17, hp_42⟩ | ⟨er17, hp_42⟩
              · subst er17
                have f_44 : 0 ≤ (gI z16 3702).toInt ∧ (gI z16 3702).toInt ≤ 300 := tz16.1 3702
                have f_45 : 0 ≤ (gI z16 3703).toInt ∧ (gI z16 3703).toInt ≤ 300 := tz16.1 3703
                refine ⟨fun _ => ?_, fun hc => absurd hc (by decide)⟩
                intro x19 ex19
                have ix19 : x19.toInt = (v7.toInt + (1)) := by rw [ex19]; exact (a_add rfl (show (1 : Int32).toInt = 1 by decide) (by omega) (by omega))
                exact ih_22 x19 z16 tz16 oz16 xz16 (by omega) (by omega) (by omega) (by omega) (by omega)
              · subst er17
                have f_46 : 0 ≤ (gI z16 3702).toInt ∧ (gI z16 3702).toInt ≤ 300 := tz16.1 3702
                have f_47 : 0 ≤ (gI z16 3703).toInt ∧ (gI z16 3703).toInt ≤ 300 := tz16.1 3703
                refine ⟨fun hc => absurd hc (by decide), fun _ => ?_⟩
                have g_48 : (0 : Int32).toInt = 0 := by decide
                exact hk ((0 : Int32)) z16 tz16 oz16 (Or.inr ⟨rfl, trivial⟩)
            · skip
              have f_49 : 0 ≤ (gI z14 3702).toInt ∧ (gI z14 3702).toInt ≤ 300 := tz14.1 3702
              have q_50 := (show (gI z14 3702).toInt = (gI z11 3702).toInt by rw [ez14]; rfl)
              have f_51 : 0 ≤ (gI z14 3701).toInt ∧ (gI z14 3701).toInt ≤ 300 := tz14.1 3701
              have q_52 := (((show (gI z14 3701).toInt = (gI z11 3701).toInt by rw [ez14]; rfl)).trans (o_32.fi 3701 (by decide))).trans (ocz9.fi 3701 (by decide))
              have i_53 := i_nlt rfl rfl c15
              have g_54 : (1 : Int32).toInt = 1 := by decide
              exact hk ((1 : Int32)) z14 tz14 oz14 (Or.inl ⟨rfl, trivial⟩)
          · subst er12
            have f_55 : 0 ≤ (gI z11 3702).toInt ∧ (gI z11 3702).toInt ≤ 300 := tz11.1 3702
            have f_56 : 0 ≤ (gI z11 3703).toInt ∧ (gI z11 3703).toInt ≤ 300 := tz11.1 3703
            refine ⟨fun hc => absurd hc (by decide), fun _ => ?_⟩
            have g_57 : (0 : Int32).toInt = 0 := by decide
            exact hk ((0 : Int32)) z11 tz11 oz11 (Or.inr ⟨rfl, trivial⟩)
    have g_58 : (0 : Int32).toInt = 0 := by decide
    exact L_17 ((20 - (0 : Int32).toInt).toNat + 1) ((0 : Int32)) z4 tz4 oz4 xz4 (by omega) (by omega) (by omega) (by omega) (by omega)
  · skip
    have f_59 : 0 ≤ (gI z4 3701).toInt ∧ (gI z4 3701).toInt ≤ 300 := tz4.1 3701
    have q_60 := (((o_10.fi 3701 (by decide))).trans (show (gI z3 3701).toInt = (gI z1 3701).toInt by rw [ez3]; rfl)).trans (o_2.fi 3701 (by decide))
    have i_61 := i_nlt rfl rfl c6
    have g_62 : (1 : Int32).toInt = 1 := by decide
    exact hk ((1 : Int32)) z4 tz4 oz4 (Or.inl ⟨rfl, trivial⟩)

