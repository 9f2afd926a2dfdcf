def okX (j : Nat) (x : Int32) : Prop := if j = 105 then 0 ≤ x.toInt ∧ x.toInt ≤ 400 else if j = 705 then 0 ≤ x.toInt ∧ x.toInt ≤ 4 else if j = 1308 then 0 ≤ x.toInt ∧ x.toInt ≤ 16 else if j = 2104 then 0 ≤ x.toInt ∧ x.toInt ≤ 167 else if j = 2213 then 0 ≤ x.toInt ∧ x.toInt ≤ 5 else if j = 3701 then 0 ≤ x.toInt ∧ x.toInt ≤ 300 else if j = 3702 then 0 ≤ x.toInt ∧ x.toInt ≤ 300 else if j = 3703 then 0 ≤ x.toInt ∧ x.toInt ≤ 300 else if j = 3909 then 0 ≤ x.toInt ∧ x.toInt ≤ 6 else if j = 3915 then 0 ≤ x.toInt ∧ x.toInt ≤ 48 else True
def okXF (j i : Nat) (x : Int32) : Prop := if j = 49 then -10 ≤ x.toInt ∧ x.toInt ≤ 40 - ((i % 41 : Nat) : Int) else if j = 2 then 0 ≤ x.toInt ∧ x.toInt ≤ 167 else if j = 14 then 0 ≤ x.toInt ∧ x.toInt ≤ 3 else if j = 15 then 0 ≤ x.toInt ∧ x.toInt ≤ 167 else if j = 16 then 0 ≤ x.toInt ∧ x.toInt ≤ 167 else if j = 17 then 0 ≤ x.toInt ∧ x.toInt ≤ 4 else if j = 19 then 0 ≤ x.toInt ∧ x.toInt ≤ 2 else if j = 20 then -1 ≤ x.toInt ∧ x.toInt ≤ 167 else if j = 23 then 0 ≤ x.toInt ∧ x.toInt ≤ 15 else if j = 24 then -1 ≤ x.toInt ∧ x.toInt ≤ 167 else if j = 25 then 0 ≤ x.toInt ∧ x.toInt ≤ 24 else if j = 26 then 0 ≤ x.toInt ∧ x.toInt ≤ 23 else if j = 27 then 0 ≤ x.toInt ∧ x.toInt ≤ 23 else if j = 32 then 0 ≤ x.toInt ∧ x.toInt ≤ 23 else if j = 33 then 0 ≤ x.toInt ∧ x.toInt ≤ 23 else if j = 40 then 0 ≤ x.toInt ∧ x.toInt ≤ 3 else if j = 41 then 0 ≤ x.toInt ∧ x.toInt ≤ 40 else if j = 42 then 0 ≤ x.toInt ∧ x.toInt ≤ 40 else if j = 43 then 0 ≤ x.toInt ∧ x.toInt ≤ 10 else if j = 44 then 0 ≤ x.toInt ∧ x.toInt ≤ 10 else if j = 45 then 0 ≤ x.toInt ∧ x.toInt ≤ 3 else True
abbrev TX (z : St) : Prop := Ty okX okXF z
set_option maxHeartbeats 2000000 in
theorem s_X8_isWithin (b1 : Int32) (b2 : Int32) (z : St) (P : Int32 → Prop) (ht : TX z)  (hk : ∀ r : Int32, (r = 1 ∧ (0 ≤ b1.toInt ∧ b1.toInt ≤ b2.toInt)) ∨ (r = 0 ∧ (b1.toInt < 0 ∨ b2.toInt < b1.toInt)) → P r) : wp_X8_isWithin b1 b2 z P := by
  unfold wp_X8_isWithin
  refine ⟨fun c1 => ?_, fun c1 => ?_⟩
  · skip
    have i_1 := i_lt rfl (show (0 : Int32).toInt = 0 by decide) c1
    have g_2 : (0 : Int32).toInt = 0 := by decide
    exact hk ((0 : Int32)) (Or.inr ⟨rfl, (by omega)⟩)
  · skip
    have i_3 := i_nlt rfl (show (0 : Int32).toInt = 0 by decide) c1
    refine ⟨fun c2 => ?_, fun c2 => ?_⟩
    · skip
      have i_4 := i_lt rfl rfl c2
      have g_5 : (0 : Int32).toInt = 0 := by decide
      exact hk ((0 : Int32)) (Or.inr ⟨rfl, (by omega)⟩)
    · skip
      have i_6 := i_nlt rfl rfl c2
      have g_7 : (1 : Int32).toInt = 1 := by decide
      exact hk ((1 : Int32)) (Or.inl ⟨rfl, (by omega)⟩)

set_option maxHeartbeats 2000000 in
theorem s_X8_isHour (b1 : Int32) (z : St) (P : Int32 → Prop) (ht : TX z)  (hk : ∀ r : Int32, (r = 1 ∧ (0 ≤ b1.toInt ∧ b1.toInt ≤ 167)) ∨ (r = 0 ∧ (b1.toInt < 0 ∨ 167 < b1.toInt)) → P r) : wp_X8_isHour b1 z P := by
  unfold wp_X8_isHour
  have g_1 : (167 : Int32).toInt = 167 := by decide
  refine s_X8_isWithin b1 ((167 : Int32)) z _ ht  (fun r2 hp_2 => ?_)
  rcases hp_2 with ⟨er2, hp_2⟩ | ⟨er2, hp_2⟩
  · subst er2
    have g_3 : (1 : Int32).toInt = 1 := by decide
    refine ⟨Or.inr rfl, ?_⟩
    exact hk ((1 : Int32)) (Or.inl ⟨rfl, (by omega)⟩)
  · subst er2
    have g_4 : (0 : Int32).toInt = 0 := by decide
    refine ⟨Or.inl rfl, ?_⟩
    exact hk ((0 : Int32)) (Or.inr ⟨rfl, (by omega)⟩)

set_option maxHeartbeats 2000000 in
theorem s_X8_refuse (b1 : Int32) (z : St) (P : Int32 → St → Prop) (ht : TX z)  (hk : ∀ (r : Int32) (z2 : St), TX z2 → Same [8] [] z z2 → (r.toInt = b1.toInt) → P r z2) : wp_X8_refuse b1 z P := by
  unfold wp_X8_refuse
  intro z1 ez1
  have tz1 : TX z1 := by rw [ez1]; exact Ty_wI ht trivial
  have oz1 : Same [8] [] z z1 := (Same.rf (z := z)).i (by decide) ez1
  exact hk b1 z1 tz1 oz1 (by omega)

set_option maxHeartbeats 2000000 in
theorem s_X8_isPrice (b1 : Int32) (z : St) (P : Int32 → Prop) (ht : TX z)  (hk : ∀ r : Int32, (r = 1 ∧ (-1000 ≤ b1.toInt ∧ b1.toInt ≤ 10000)) ∨ (r = 0 ∧ (b1.toInt < -1000 ∨ 10000 < b1.toInt)) → P r) : wp_X8_isPrice b1 z P := by
  unfold wp_X8_isPrice
  refine ⟨fun c1 => ?_, fun c1 => ?_⟩
  · skip
    have i_1 := i_lt rfl (show (-1000 : Int32).toInt = -1000 by decide) c1
    have g_2 : (0 : Int32).toInt = 0 := by decide
    exact hk ((0 : Int32)) (Or.inr ⟨rfl, (by omega)⟩)
  · skip
    have i_3 := i_nlt rfl (show (-1000 : Int32).toInt = -1000 by decide) c1
    refine ⟨fun c2 => ?_, fun c2 => ?_⟩
    · skip
      have i_4 := i_lt (show (10000 : Int32).toInt = 10000 by decide) rfl c2
      have g_5 : (0 : Int32).toInt = 0 := by decide
      exact hk ((0 : Int32)) (Or.inr ⟨rfl, (by omega)⟩)
    · skip
      have i_6 := i_nlt (show (10000 : Int32).toInt = 10000 by decide) rfl c2
      have g_7 : (1 : Int32).toInt = 1 := by decide
      exact hk ((1 : Int32)) (Or.inl ⟨rfl, (by omega)⟩)

set_option maxHeartbeats 2000000 in
theorem s_X8_isKnown (b1 : Int32) (z : St) (P : Int32 → Prop) (ht : TX z)  (hk : ∀ r : Int32, (r = 1 ∧ (0 ≤ b1.toInt ∧ b1.toInt ≤ 1000)) ∨ (r = 0 ∧ (b1.toInt < 0 ∨ 1000 < b1.toInt)) → P r) : wp_X8_isKnown b1 z P := by
  unfold wp_X8_isKnown
  have g_1 : (1000 : Int32).toInt = 1000 := by decide
  refine s_X8_isWithin b1 ((1000 : Int32)) z _ ht  (fun r2 hp_2 => ?_)
  rcases hp_2 with ⟨er2, hp_2⟩ | ⟨er2, hp_2⟩
  · subst er2
    have g_3 : (1 : Int32).toInt = 1 := by decide
    refine ⟨Or.inr rfl, ?_⟩
    exact hk ((1 : Int32)) (Or.inl ⟨rfl, (by omega)⟩)
  · subst er2
    have g_4 : (0 : Int32).toInt = 0 := by decide
    refine ⟨Or.inl rfl, ?_⟩
    exact hk ((0 : Int32)) (Or.inr ⟨rfl, (by omega)⟩)

set_option maxHeartbeats 2000000 in
theorem s_X3_tell (b1 : Int32) (b2 : Int32) (b3 : Int32) (z : St) (P : St → Prop) (ht : TX z) (h0 : 0 ≤ b1.toInt ∧ b1.toInt ≤ 167) (h1 : (gI z 105).toInt ≤ 399) (hk : ∀ (z2 : St), TX z2 → Same [105] [2, 3, 4] z z2 → ((gI z2 105).toInt = (gI z 105).toInt + 1) → P z2) : wp_X3_tell b1 b2 b3 z P := by
  unfold wp_X3_tell
  have f_1 : 0 ≤ (gI z 105).toInt ∧ (gI z 105).toInt ≤ 400 := ht.1 105
  refine ⟨vin rfl (by omega) (by omega), ?_⟩
  intro z1 ez1
  have tz1 : TX z1 := by rw [ez1]; exact Ty_wR ht (show 0 ≤ b1.toInt ∧ b1.toInt ≤ 167 from by omega)
  have oz1 : Same [105] [2, 3, 4] z z1 := (Same.rf (z := z)).r (by decide) ez1
  have f_2 : 0 ≤ (gI z1 105).toInt ∧ (gI z1 105).toInt ≤ 400 := tz1.1 105
  have q_3 := (show (gI z1 105).toInt = (gI z 105).toInt by rw [ez1]; rfl)
  refine ⟨vin rfl (by omega) (by omega), ?_⟩
  intro z2 ez2
  have tz2 : TX z2 := by rw [ez2]; exact Ty_wR tz1 trivial
  have oz2 : Same [105] [2, 3, 4] z z2 := oz1.r (by decide) ez2
  have f_4 : 0 ≤ (gI z2 105).toInt ∧ (gI z2 105).toInt ≤ 400 := tz2.1 105
  have q_5 := ((show (gI z2 105).toInt = (gI z1 105).toInt by rw [ez2]; rfl)).trans (show (gI z1 105).toInt = (gI z 105).toInt by rw [ez1]; rfl)
  refine ⟨vin rfl (by omega) (by omega), ?_⟩
  intro z3 ez3
  have tz3 : TX z3 := by rw [ez3]; exact Ty_wR tz2 trivial
  have oz3 : Same [105] [2, 3, 4] z z3 := oz2.r (by decide) ez3
  intro z4 ez4
  have f_6 : 0 ≤ (gI z3 105).toInt ∧ (gI z3 105).toInt ≤ 400 := tz3.1 105
  have q_7 := (((show (gI z3 105).toInt = (gI z2 105).toInt by rw [ez3]; rfl)).trans (show (gI z2 105).toInt = (gI z1 105).toInt by rw [ez2]; rfl)).trans (show (gI z1 105).toInt = (gI z 105).toInt by rw [ez1]; rfl)
  have tz4 : TX z4 := by rw [ez4]; exact Ty_wI tz3 (show 0 ≤ ((gI z3 105) + (1 : Int32)).toInt ∧ ((gI z3 105) + (1 : Int32)).toInt ≤ 400 from by rw [(a_add rfl (show (1 : Int32).toInt = 1 by decide) (by omega) (by omega))]; omega)
  have oz4 : Same [105] [2, 3, 4] z z4 := oz3.i (by decide) ez4
  have f_8 : 0 ≤ (gI z4 105).toInt ∧ (gI z4 105).toInt ≤ 400 := tz4.1 105
  have q_9 := (show (gI z4 105).toInt = ((gI z3 105) + (1 : Int32)).toInt by rw [ez4]; rfl)
  have q_10 : ((gI z3 105) + (1 : Int32)).toInt = ((gI z3 105).toInt + (1)) := (a_add rfl (show (1 : Int32).toInt = 1 by decide) (by omega) (by omega))
  exact hk z4 tz4 oz4 (by omega)

set_option maxHeartbeats 2000000 in
theorem s_X8_accept (b1 : Int32) (z : St) (P : Int32 → St → Prop) (ht : TX z)  (hk : ∀ (r : Int32) (z2 : St), TX z2 → Same [8] [] z z2 → (r.toInt = b1.toInt) → P r z2) : wp_X8_accept b1 z P := by
  unfold wp_X8_accept
  intro z1 ez1
  have tz1 : TX z1 := by rw [ez1]; exact Ty_wI ht trivial
  have oz1 : Same [8] [] z z1 := (Same.rf (z := z)).i (by decide) ez1
  exact hk b1 z1 tz1 oz1 (by omega)

set_option maxHeartbeats 2000000 in
theorem s_X8_price (b1 : Int32) (b2 : Int32) (b3 : Int32) (z : St) (P : Int32 → St → Prop) (ht : TX z)  (hk : ∀ (r : Int32) (z2 : St), TX z2 → Same [8, 105] [2, 3, 4, 5] z z2 → ((((b1.toInt < 0 ∨ 167 < b1.toInt) ∨ (b2.toInt < -1000 ∨ 10000 < b2.toInt) ∨ (b3.toInt < 0 ∨ 1000 < b3.toInt)) ∧ r.toInt = -1 ∧ (gI z2 105).toInt = (gI z 105).toInt) ∨ ((0 ≤ b1.toInt ∧ b1.toInt ≤ 167) ∧ (-1000 ≤ b2.toInt ∧ b2.toInt ≤ 10000) ∧ (0 ≤ b3.toInt ∧ b3.toInt ≤ 1000) ∧ (gI z 105).toInt = 400 ∧ r.toInt = -5 ∧ (gI z2 105).toInt = (gI z 105).toInt) ∨ ((0 ≤ b1.toInt ∧ b1.toInt ≤ 167) ∧ (-1000 ≤ b2.toInt ∧ b2.toInt ≤ 10000) ∧ (0 ≤ b3.toInt ∧ b3.toInt ≤ 1000) ∧ (gI z 105).toInt ≤ 399 ∧ r.toInt = (gI z 105).toInt + 1 ∧ (gI z2 105).toInt = (gI z 105).toInt + 1)) → P r z2) : wp_X8_price b1 b2 b3 z P := by
  unfold wp_X8_price
  refine s_X8_isHour b1 z _ ht  (fun r2 hp_1 => ?_)
  rcases hp_1 with ⟨er2, hp_1⟩ | ⟨er2, hp_1⟩
  · subst er2
    intro K3 hK_2
    refine ⟨fun hc => absurd hc (by decide), fun _ => ?_⟩
    refine s_X8_isPrice b2 z _ ht  (fun r8 hp_3 => ?_)
    rcases hp_3 with ⟨er8, hp_3⟩ | ⟨er8, hp_3⟩
    · subst er8
      refine ⟨fun hc => absurd hc (by decide), fun _ => ?_⟩
      refine s_X8_isKnown b3 z _ ht  (fun r11 hp_4 => ?_)
      rcases hp_4 with ⟨er11, hp_4⟩ | ⟨er11, hp_4⟩
      · subst er11
        refine ⟨fun _ => ?_, fun hc => absurd hc (by decide)⟩
        refine ⟨fun c13 => ?_, fun c13 => ?_⟩
        · skip
          have f_5 : 0 ≤ (gI z 105).toInt ∧ (gI z 105).toInt ≤ 400 := ht.1 105
          have i_6 := i_lt rfl (show (400 : Int32).toInt = 400 by decide) c13
          refine s_X3_tell b1 b2 b3 z _ ht (by omega) (by omega) (fun z14 tz14 o_8 hp_7 => ?_)
          have oz14 : Same [8, 105] [2, 3, 4, 5] z z14 := (Same.rf (z := z)).tr o_8 (by decide) (by decide)
          have f_9 : 0 ≤ (gI z14 105).toInt ∧ (gI z14 105).toInt ≤ 400 := tz14.1 105
          intro K16 hK_10
          refine ⟨fun c20 => ?_, fun c20 => ?_⟩
          · skip
            have f_11 : 0 ≤ (gI z14 2104).toInt ∧ (gI z14 2104).toInt ≤ 167 := tz14.1 2104
            have q_12 := (o_8.fi 2104 (by decide))
            have f_13 : 0 ≤ (gI z 2104).toInt ∧ (gI z 2104).toInt ≤ 167 := ht.1 2104
            have i_14 := i_lt rfl rfl c20
            refine hK_10 z14 ?_
            refine s_X8_accept (gI z14 105) z14 _ tz14  (fun r_15 z_16 tz_16 o_18 hp_17 => ?_)
            have oz_16 : Same [8, 105] [2, 3, 4, 5] z z_16 := oz14.tr o_18 (by decide) (by decide)
            have f_19 : 0 ≤ (gI z_16 105).toInt ∧ (gI z_16 105).toInt ≤ 400 := tz_16.1 105
            have q_20 := (o_18.fi 105 (by decide))
            exact hk r_15 z_16 tz_16 oz_16 (by omega)
          · skip
            have f_21 : 0 ≤ (gI z14 2104).toInt ∧ (gI z14 2104).toInt ≤ 167 := tz14.1 2104
            have q_22 := (o_8.fi 2104 (by decide))
            have f_23 : 0 ≤ (gI z 2104).toInt ∧ (gI z 2104).toInt ≤ 167 := ht.1 2104
            have i_24 := i_nlt rfl rfl c20
            refine ⟨vin rfl (by omega) (by omega), ?_⟩
            intro z21 ez21
            have tz21 : TX z21 := by rw [ez21]; exact Ty_wR tz14 trivial
            have oz21 : Same [8, 105] [2, 3, 4, 5] z z21 := oz14.r (by decide) ez21
            refine hK_10 z21 ?_
            have f_27 : 0 ≤ (gI z21 105).toInt ∧ (gI z21 105).toInt ≤ 400 := tz21.1 105
            have q_28 := (show (gI z21 105).toInt = (gI z14 105).toInt by rw [ez21]; rfl)
            refine s_X8_accept (gI z21 105) z21 _ tz21  (fun r_25 z_26 tz_26 o_30 hp_29 => ?_)
            have oz_26 : Same [8, 105] [2, 3, 4, 5] z z_26 := oz21.tr o_30 (by decide) (by decide)
            have f_31 : 0 ≤ (gI z_26 105).toInt ∧ (gI z_26 105).toInt ≤ 400 := tz_26.1 105
            have q_32 := ((o_30.fi 105 (by decide))).trans (show (gI z21 105).toInt = (gI z14 105).toInt by rw [ez21]; rfl)
            exact hk r_25 z_26 tz_26 oz_26 (by omega)
        · skip
          have f_33 : 0 ≤ (gI z 105).toInt ∧ (gI z 105).toInt ≤ 400 := ht.1 105
          have i_34 := i_nlt rfl (show (400 : Int32).toInt = 400 by decide) c13
          have g_35 : (-5 : Int32).toInt = -5 := by decide
          refine s_X8_refuse ((-5 : Int32)) z _ ht  (fun r23 z22 tz22 o_37 hp_36 => ?_)
          have oz22 : Same [8, 105] [2, 3, 4, 5] z z22 := (Same.rf (z := z)).tr o_37 (by decide) (by decide)
          have f_38 : 0 ≤ (gI z22 105).toInt ∧ (gI z22 105).toInt ≤ 400 := tz22.1 105
          have q_39 := (o_37.fi 105 (by decide))
          exact hk r23 z22 tz22 oz22 (by omega)
      · subst er11
        refine ⟨fun hc => absurd hc (by decide), fun _ => ?_⟩
        refine hK_2  ?_
        have g_42 : (-1 : Int32).toInt = -1 := by decide
        refine s_X8_refuse ((-1 : Int32)) z _ ht  (fun r_40 z_41 tz_41 o_44 hp_43 => ?_)
        have oz_41 : Same [8, 105] [2, 3, 4, 5] z z_41 := (Same.rf (z := z)).tr o_44 (by decide) (by decide)
        have f_45 : 0 ≤ (gI z_41 105).toInt ∧ (gI z_41 105).toInt ≤ 400 := tz_41.1 105
        have q_46 := (o_44.fi 105 (by decide))
        have f_47 : 0 ≤ (gI z 105).toInt ∧ (gI z 105).toInt ≤ 400 := ht.1 105
        exact hk r_40 z_41 tz_41 oz_41 (by omega)
    · subst er8
      refine ⟨fun _ => ?_, fun hc => absurd (show ((0 : Int32)) = ((0 : Int32)) by decide) hc⟩
      refine hK_2  ?_
      have g_50 : (-1 : Int32).toInt = -1 := by decide
      refine s_X8_refuse ((-1 : Int32)) z _ ht  (fun r_48 z_49 tz_49 o_52 hp_51 => ?_)
      have oz_49 : Same [8, 105] [2, 3, 4, 5] z z_49 := (Same.rf (z := z)).tr o_52 (by decide) (by decide)
      have f_53 : 0 ≤ (gI z_49 105).toInt ∧ (gI z_49 105).toInt ≤ 400 := tz_49.1 105
      have q_54 := (o_52.fi 105 (by decide))
      have f_55 : 0 ≤ (gI z 105).toInt ∧ (gI z 105).toInt ≤ 400 := ht.1 105
      exact hk r_48 z_49 tz_49 oz_49 (by omega)
  · subst er2
    intro K3 hK_56
    refine ⟨fun _ => ?_, fun hc => absurd (show ((0 : Int32)) = ((0 : Int32)) by decide) hc⟩
    refine hK_56  ?_
    have g_59 : (-1 : Int32).toInt = -1 := by decide
    refine s_X8_refuse ((-1 : Int32)) z _ ht  (fun r_57 z_58 tz_58 o_61 hp_60 => ?_)
    have oz_58 : Same [8, 105] [2, 3, 4, 5] z z_58 := (Same.rf (z := z)).tr o_61 (by decide) (by decide)
    have f_62 : 0 ≤ (gI z_58 105).toInt ∧ (gI z_58 105).toInt ≤ 400 := tz_58.1 105
    have q_63 := (o_61.fi 105 (by decide))
    have f_64 : 0 ≤ (gI z 105).toInt ∧ (gI z 105).toInt ≤ 400 := ht.1 105
    exact hk r_57 z_58 tz_58 oz_58 (by omega)

set_option maxHeartbeats 2000000 in
theorem s_J7_fill_53178_5 (b2 : Int32) (z : St) (P : St → Prop) (ht : TX z)  (hk : ∀ (z2 : St), TX z2 → Same [] [5] z z2 → (True) → P z2) : wp_J7_fill_53178_5 b2 z P := by
  unfold wp_J7_fill_53178_5
  intro K3 hK_1
  have L_2 : ∀ (n : Nat) (v1 : Int32) (v2 : Int32) (z4 : St), TX z4 → Same [] [5] z z4 → (0 ≤ v1.toInt) → (v1.toInt ≤ 168) → (v2.toInt = 168) → (168 - v1.toInt).toNat < n → K3 v1 v2 z4 := by
    intro n
    induction n with
    | zero => intro v1 v2 z4 tz4 ocz4 w_3 w_4 w_5 m_7; omega
    | succ n ih_6 =>
      intro v1 v2 z4 tz4 ocz4 w_3 w_4 w_5 m_7
      refine hK_1 v1 v2 z4 ?_
      refine ⟨fun c5 => ?_, fun c5 => ?_⟩
      · skip
        have i_8 := i_le rfl rfl c5
        exact hk z4 tz4 ocz4 trivial
      · skip
        have i_9 := i_nle rfl rfl c5
        refine ⟨vin rfl (by omega) (by omega), ?_⟩
        intro z6 ez6
        have tz6 : TX z6 := by rw [ez6]; exact Ty_wR tz4 trivial
        have oz6 : Same [] [5] z z6 := ocz4.r (by decide) ez6
        intro x7 ex7
        have ix7 : x7.toInt = (v1.toInt + (1)) := by rw [ex7]; exact (a_add rfl (show (1 : Int32).toInt = 1 by decide) (by omega) (by omega))
        exact ih_6 x7 v2 z6 tz6 oz6 (by omega) (by omega) (by omega) (by omega)
  have g_10 : (0 : Int32).toInt = 0 := by decide
  have g_11 : (168 : Int32).toInt = 168 := by decide
  exact L_2 ((168 - (0 : Int32).toInt).toNat + 1) ((0 : Int32)) ((168 : Int32)) z ht (Same.rf (z := z)) (by omega) (by omega) (by omega) (by omega)

set_option maxHeartbeats 2000000 in
theorem s_X3_lay_5 (b2 : Int32) (z : St) (P : St → Prop) (ht : TX z)  (hk : ∀ (z2 : St), TX z2 → Same [] [5] z z2 → (True) → P z2) : wp_X3_lay_5 b2 z P := by
  unfold wp_X3_lay_5
  refine s_J7_fill_53178_5 (gI z 106) z _ ht  (fun z1 tz1 o_2 hp_1 => ?_)
  have oz1 : Same [] [5] z z1 := (Same.rf (z := z)).tr o_2 (by decide) (by decide)
  intro K4 hK_3
  have L_4 : ∀ (n : Nat) (v3 : Int32) (z5 : St), TX z5 → Same [] [5] z z5 → (0 ≤ v3.toInt) → (v3.toInt ≤ 400) → (400 - v3.toInt).toNat < n → K4 v3 z5 := by
    intro n
    induction n with
    | zero => intro v3 z5 tz5 ocz5 w_5 w_6 m_8; omega
    | succ n ih_7 =>
      intro v3 z5 tz5 ocz5 w_5 w_6 m_8
      refine hK_3 v3 z5 ?_
      refine ⟨fun c6 => ?_, fun c6 => ?_⟩
      · skip
        have f_9 : 0 ≤ (gI z5 105).toInt ∧ (gI z5 105).toInt ≤ 400 := tz5.1 105
        have q_10 := (ocz5.fi 105 (by decide))
        have f_11 : 0 ≤ (gI z 105).toInt ∧ (gI z 105).toInt ≤ 400 := ht.1 105
        have i_12 := i_le rfl rfl c6
        exact hk z5 tz5 ocz5 trivial
      · skip
        have f_13 : 0 ≤ (gI z5 105).toInt ∧ (gI z5 105).toInt ≤ 400 := tz5.1 105
        have q_14 := (ocz5.fi 105 (by decide))
        have f_15 : 0 ≤ (gI z 105).toInt ∧ (gI z 105).toInt ≤ 400 := ht.1 105
        have i_16 := i_nle rfl rfl c6
        refine ⟨vin rfl (by omega) (by omega), ?_⟩
        intro K7 hK_17
        refine ⟨fun c10 => ?_, fun c10 => ?_⟩
        · skip
          have q_18 := (ocz5.ff 4 v3.toNatClampNeg (by decide))
          have i_19 := i_lt rfl rfl c10
          refine hK_17 z5 ?_
          intro y_20 ey_20
          have iy_20 : y_20.toInt = (v3.toInt + (1)) := by rw [ey_20]; exact (a_add rfl (show (1 : Int32).toInt = 1 by decide) (by omega) (by omega))
          exact ih_7 y_20 z5 tz5 ocz5 (by omega) (by omega) (by omega)
        · skip
          have q_21 := (ocz5.ff 4 v3.toNatClampNeg (by decide))
          have i_22 := i_nlt rfl rfl c10
          refine ⟨vin rfl (by omega) (by omega), ?_⟩
          refine ⟨vin rfl (by omega) (by omega), ?_⟩
          have f_23 : 0 ≤ (gF z5 2 v3.toNatClampNeg).toInt ∧ (gF z5 2 v3.toNatClampNeg).toInt ≤ 167 := tz5.2 2 _
          have q_24 := (ocz5.ff 2 v3.toNatClampNeg (by decide))
          have f_25 : 0 ≤ (gF z 2 v3.toNatClampNeg).toInt ∧ (gF z 2 v3.toNatClampNeg).toInt ≤ 167 := ht.2 2 _
          refine ⟨vin rfl (by omega) (by omega), ?_⟩
          intro z11 ez11
          have tz11 : TX z11 := by rw [ez11]; exact Ty_wR tz5 trivial
          have oz11 : Same [] [5] z z11 := ocz5.r (by decide) ez11
          refine hK_17 z11 ?_
          intro y_26 ey_26
          have iy_26 : y_26.toInt = (v3.toInt + (1)) := by rw [ey_26]; exact (a_add rfl (show (1 : Int32).toInt = 1 by decide) (by omega) (by omega))
          exact ih_7 y_26 z11 tz11 oz11 (by omega) (by omega) (by omega)
  have g_27 : (0 : Int32).toInt = 0 := by decide
  exact L_4 ((400 - (0 : Int32).toInt).toNat + 1) ((0 : Int32)) z1 tz1 oz1 (by omega) (by omega) (by omega)

set_option maxHeartbeats 2000000 in
theorem s_X8_plain (b1 : Int32) (z : St) (P : Int32 → St → Prop) (ht : TX z)  (hk : ∀ (r : Int32) (z2 : St), TX z2 → Same [8, 106] [5] z z2 → (((b1.toInt < -1000 ∨ 10000 < b1.toInt) ∧ r.toInt = -5000 ∧ (gI z2 106).toInt = (gI z 106).toInt) ∨ ((-1000 ≤ b1.toInt ∧ b1.toInt ≤ 10000) ∧ r.toInt = (gI z 106).toInt ∧ (gI z2 106).toInt = b1.toInt)) → P r z2) : wp_X8_plain b1 z P := by
  unfold wp_X8_plain
  refine s_X8_isPrice b1 z _ ht  (fun r2 hp_1 => ?_)
  rcases hp_1 with ⟨er2, hp_1⟩ | ⟨er2, hp_1⟩
  · subst er2
    refine ⟨fun _ => ?_, fun hc => absurd hc (by decide)⟩
    intro x4 ex4
    have ix4 : x4.toInt = (gI z 106).toInt := by rw [ex4]
    intro z5 ez5
    have tz5 : TX z5 := by rw [ez5]; exact Ty_wI ht trivial
    have oz5 : Same [8, 106] [5] z z5 := (Same.rf (z := z)).i (by decide) ez5
    have f_2 : 0 ≤ (gI z5 2104).toInt ∧ (gI z5 2104).toInt ≤ 167 := tz5.1 2104
    have q_3 := (show (gI z5 2104).toInt = (gI z 2104).toInt by rw [ez5]; rfl)
    have f_4 : 0 ≤ (gI z 2104).toInt ∧ (gI z 2104).toInt ≤ 167 := ht.1 2104
    refine s_X3_lay_5 (gI z5 2104) z5 _ tz5  (fun z6 tz6 o_6 hp_5 => ?_)
    have oz6 : Same [8, 106] [5] z z6 := oz5.tr o_6 (by decide) (by decide)
    refine s_X8_accept x4 z6 _ tz6  (fun r9 z8 tz8 o_8 hp_7 => ?_)
    have oz8 : Same [8, 106] [5] z z8 := oz6.tr o_8 (by decide) (by decide)
    have q_9 := (((o_8.fi 106 (by decide))).trans (o_6.fi 106 (by decide))).trans (show (gI z5 106).toInt = b1.toInt by rw [ez5]; rfl)
    exact hk r9 z8 tz8 oz8 (by omega)
  · subst er2
    refine ⟨fun hc => absurd hc (by decide), fun _ => ?_⟩
    have g_10 : (-1 : Int32).toInt = -1 := by decide
    refine s_X8_refuse ((-1 : Int32)) z _ ht  (fun r11 z10 tz10 o_12 hp_11 => ?_)
    have oz10 : Same [8, 106] [5] z z10 := (Same.rf (z := z)).tr o_12 (by decide) (by decide)
    have g_13 : (-5000 : Int32).toInt = -5000 := by decide
    have q_14 := (o_12.fi 106 (by decide))
    exact hk ((-5000 : Int32)) z10 tz10 oz10 (by omega)

set_option maxHeartbeats 2000000 in
theorem s_X3_asKnown (b1 : Int32) (b2 : Int32) (z : St) (P : Int32 → Prop) (ht : TX z)  (hk : ∀ r : Int32, True → P r) : wp_X3_asKnown b1 b2 z P := by
  unfold wp_X3_asKnown
  intro K2 hK_1
  have L_2 : ∀ (n : Nat) (v1 : Int32), (-1 ≤ v1.toInt) → (v1.toInt ≤ 399) → (v1.toInt + 1).toNat < n → K2 v1 := by
    intro n
    induction n with
    | zero => intro v1 w_3 w_4 m_6; omega
    | succ n ih_5 =>
      intro v1 w_3 w_4 m_6
      refine hK_1 v1 ?_
      refine ⟨fun c3 => ?_, fun c3 => ?_⟩
      · skip
        have i_7 := i_lt rfl (show (0 : Int32).toInt = 0 by decide) c3
        exact hk (gI z 106) trivial
      · skip
        have i_8 := i_nlt rfl (show (0 : Int32).toInt = 0 by decide) c3
        refine ⟨vin rfl (by omega) (by omega), ?_⟩
        intro K4 hK_9
        refine ⟨fun c6 => ?_, fun c6 => ?_⟩
        · skip
          have f_10 : 0 ≤ (gF z 2 v1.toNatClampNeg).toInt ∧ (gF z 2 v1.toNatClampNeg).toInt ≤ 167 := ht.2 2 _
          have i_11 := i_ne rfl rfl c6
          refine hK_9  ?_
          intro y_12 ey_12
          have iy_12 : y_12.toInt = (v1.toInt + (-1)) := by rw [ey_12]; exact (a_add rfl (show (-1 : Int32).toInt = -1 by decide) (by omega) (by omega))
          exact ih_5 y_12 (by omega) (by omega) (by omega)
        · skip
          have f_13 : 0 ≤ (gF z 2 v1.toNatClampNeg).toInt ∧ (gF z 2 v1.toNatClampNeg).toInt ≤ 167 := ht.2 2 _
          have i_14 := i_eq rfl rfl c6
          refine ⟨vin rfl (by omega) (by omega), ?_⟩
          refine ⟨fun c7 => ?_, fun c7 => ?_⟩
          · skip
            have i_15 := i_lt rfl rfl c7
            refine hK_9  ?_
            intro y_16 ey_16
            have iy_16 : y_16.toInt = (v1.toInt + (-1)) := by rw [ey_16]; exact (a_add rfl (show (-1 : Int32).toInt = -1 by decide) (by omega) (by omega))
            exact ih_5 y_16 (by omega) (by omega) (by omega)
          · skip
            have i_17 := i_nlt rfl rfl c7
            refine ⟨vin rfl (by omega) (by omega), ?_⟩
            exact hk (gF z 3 v1.toNatClampNeg) trivial
  intro x8 ex8
  have f_18 : 0 ≤ (gI z 105).toInt ∧ (gI z 105).toInt ≤ 400 := ht.1 105
  have ix8 : x8.toInt = ((gI z 105).toInt - (1)) := by rw [ex8]; exact (a_sub rfl (show (1 : Int32).toInt = 1 by decide) (by omega) (by omega))
  exact L_2 ((x8.toInt + 1).toNat + 1) x8 (by omega) (by omega) (by omega)

set_option maxHeartbeats 2000000 in
theorem s_X8_at (b1 : Int32) (b2 : Int32) (z : St) (P : Int32 → Prop) (ht : TX z)  (hk : ∀ r : Int32, True → P r) : wp_X8_at b1 b2 z P := by
  unfold wp_X8_at
  refine s_X8_isHour b1 z _ ht  (fun r2 hp_1 => ?_)
  rcases hp_1 with ⟨er2, hp_1⟩ | ⟨er2, hp_1⟩
  · subst er2
    refine ⟨fun hc => absurd hc (by decide), fun _ => ?_⟩
    refine s_X8_isKnown b2 z _ ht  (fun r5 hp_2 => ?_)
    rcases hp_2 with ⟨er5, hp_2⟩ | ⟨er5, hp_2⟩
    · subst er5
      refine ⟨fun _ => ?_, fun hc => absurd hc (by decide)⟩
      refine s_X3_asKnown b1 b2 z _ ht  (fun r8 hp_3 => ?_)
      exact hk r8 trivial
    · subst er5
      refine ⟨fun hc => absurd hc (by decide), fun _ => ?_⟩
      have g_4 : (-5000 : Int32).toInt = -5000 := by decide
      exact hk ((-5000 : Int32)) trivial
  · subst er2
    refine ⟨fun _ => ?_, fun hc => absurd (show ((0 : Int32)) = ((0 : Int32)) by decide) hc⟩
    have g_5 : (-5000 : Int32).toInt = -5000 := by decide
    exact hk ((-5000 : Int32)) trivial

set_option maxHeartbeats 2000000 in
theorem s_X0_addHome (b1 : Int32) (z : St) (P : Int32 → St → Prop) (ht : TX z) (h0 : (gI z 705).toInt ≤ 3) (hk : ∀ (r : Int32) (z2 : St), TX z2 → Same [705] [8] z z2 → ((gI z2 705).toInt = (gI z 705).toInt + 1 ∧ r.toInt = (gI z 705).toInt) → P r z2) : wp_X0_addHome b1 z P := by
  unfold wp_X0_addHome
  have f_1 : 0 ≤ (gI z 705).toInt ∧ (gI z 705).toInt ≤ 4 := ht.1 705
  refine ⟨vin rfl (by omega) (by omega), ?_⟩
  intro z1 ez1
  have tz1 : TX z1 := by rw [ez1]; exact Ty_wR ht trivial
  have oz1 : Same [705] [8] z z1 := (Same.rf (z := z)).r (by decide) ez1
  intro z2 ez2
  have f_2 : 0 ≤ (gI z1 705).toInt ∧ (gI z1 705).toInt ≤ 4 := tz1.1 705
  have q_3 := (show (gI z1 705).toInt = (gI z 705).toInt by rw [ez1]; rfl)
  have tz2 : TX z2 := by rw [ez2]; exact Ty_wI tz1 (show 0 ≤ ((gI z1 705) + (1 : Int32)).toInt ∧ ((gI z1 705) + (1 : Int32)).toInt ≤ 4 from by rw [(a_add rfl (show (1 : Int32).toInt = 1 by decide) (by omega) (by omega))]; omega)
  have oz2 : Same [705] [8] z z2 := oz1.i (by decide) ez2
  have f_4 : 0 ≤ (gI z2 705).toInt ∧ (gI z2 705).toInt ≤ 4 := tz2.1 705
  have q_5 := (show (gI z2 705).toInt = ((gI z1 705) + (1 : Int32)).toInt by rw [ez2]; rfl)
  have q_6 : ((gI z1 705) + (1 : Int32)).toInt = ((gI z1 705).toInt + (1)) := (a_add rfl (show (1 : Int32).toInt = 1 by decide) (by omega) (by omega))
  have g_7 : ((gI z2 705) - (1 : Int32)).toInt = ((gI z2 705).toInt - (1)) := (a_sub rfl (show (1 : Int32).toInt = 1 by decide) (by omega) (by omega))
  exact hk ((gI z2 705) - ((1 : Int32))) z2 tz2 oz2 (by omega)

set_option maxHeartbeats 2000000 in
theorem s_X8_home (b1 : Int32) (z : St) (P : Int32 → St → Prop) (ht : TX z)  (hk : ∀ (r : Int32) (z2 : St), TX z2 → Same [8, 705] [8] z z2 → (((b1.toInt < 0 ∨ 20000 < b1.toInt) ∧ r.toInt = -1 ∧ (gI z2 705).toInt = (gI z 705).toInt) ∨ ((0 ≤ b1.toInt ∧ b1.toInt ≤ 20000) ∧ (gI z 705).toInt = 4 ∧ r.toInt = -5 ∧ (gI z2 705).toInt = (gI z 705).toInt) ∨ ((0 ≤ b1.toInt ∧ b1.toInt ≤ 20000) ∧ (gI z 705).toInt ≤ 3 ∧ r.toInt = (gI z 705).toInt ∧ (gI z2 705).toInt = (gI z 705).toInt + 1)) → P r z2) : wp_X8_home b1 z P := by
  unfold wp_X8_home
  have g_1 : (20000 : Int32).toInt = 20000 := by decide
  refine s_X8_isWithin b1 ((20000 : Int32)) z _ ht  (fun r2 hp_2 => ?_)
  rcases hp_2 with ⟨er2, hp_2⟩ | ⟨er2, hp_2⟩
  · subst er2
    refine ⟨fun _ => ?_, fun hc => absurd hc (by decide)⟩
    refine ⟨fun c4 => ?_, fun c4 => ?_⟩
    · skip
      have f_3 : 0 ≤ (gI z 705).toInt ∧ (gI z 705).toInt ≤ 4 := ht.1 705
      have i_4 := i_lt rfl (show (4 : Int32).toInt = 4 by decide) c4
      refine s_X0_addHome b1 z _ ht (by omega) (fun r6 z5 tz5 o_6 hp_5 => ?_)
      have oz5 : Same [8, 705] [8] z z5 := (Same.rf (z := z)).tr o_6 (by decide) (by decide)
      have f_7 : 0 ≤ (gI z5 705).toInt ∧ (gI z5 705).toInt ≤ 4 := tz5.1 705
      refine s_X8_accept r6 z5 _ tz5  (fun r8 z7 tz7 o_9 hp_8 => ?_)
      have oz7 : Same [8, 705] [8] z z7 := oz5.tr o_9 (by decide) (by decide)
      have f_10 : 0 ≤ (gI z7 705).toInt ∧ (gI z7 705).toInt ≤ 4 := tz7.1 705
      have q_11 := (o_9.fi 705 (by decide))
      exact hk r8 z7 tz7 oz7 (by omega)
    · skip
      have f_12 : 0 ≤ (gI z 705).toInt ∧ (gI z 705).toInt ≤ 4 := ht.1 705
      have i_13 := i_nlt rfl (show (4 : Int32).toInt = 4 by decide) c4
      have g_14 : (-5 : Int32).toInt = -5 := by decide
      refine s_X8_refuse ((-5 : Int32)) z _ ht  (fun r10 z9 tz9 o_16 hp_15 => ?_)
      have oz9 : Same [8, 705] [8] z z9 := (Same.rf (z := z)).tr o_16 (by decide) (by decide)
      have f_17 : 0 ≤ (gI z9 705).toInt ∧ (gI z9 705).toInt ≤ 4 := tz9.1 705
      have q_18 := (o_16.fi 705 (by decide))
      exact hk r10 z9 tz9 oz9 (by omega)
  · subst er2
    refine ⟨fun hc => absurd hc (by decide), fun _ => ?_⟩
    have g_19 : (-1 : Int32).toInt = -1 := by decide
    refine s_X8_refuse ((-1 : Int32)) z _ ht  (fun r12 z11 tz11 o_21 hp_20 => ?_)
    have oz11 : Same [8, 705] [8] z z11 := (Same.rf (z := z)).tr o_21 (by decide) (by decide)
    have f_22 : 0 ≤ (gI z11 705).toInt ∧ (gI z11 705).toInt ≤ 4 := tz11.1 705
    have q_23 := (o_21.fi 705 (by decide))
    have f_24 : 0 ≤ (gI z 705).toInt ∧ (gI z 705).toInt ≤ 4 := ht.1 705
    exact hk r12 z11 tz11 oz11 (by omega)

set_option maxHeartbeats 2000000 in
theorem s_X0_has (b1 : Int32) (z : St) (P : Int32 → Prop) (ht : TX z)  (hk : ∀ r : Int32, (r = 1 ∧ (0 ≤ b1.toInt ∧ b1.toInt < (gI z 705).toInt)) ∨ (r = 0 ∧ (b1.toInt < 0 ∨ (gI z 705).toInt ≤ b1.toInt)) → P r) : wp_X0_has b1 z P := by
  unfold wp_X0_has
  refine ⟨fun c1 => ?_, fun c1 => ?_⟩
  · skip
    have i_1 := i_lt rfl (show (0 : Int32).toInt = 0 by decide) c1
    have g_2 : (0 : Int32).toInt = 0 := by decide
    have f_3 : 0 ≤ (gI z 705).toInt ∧ (gI z 705).toInt ≤ 4 := ht.1 705
    exact hk ((0 : Int32)) (Or.inr ⟨rfl, (by omega)⟩)
  · skip
    have i_4 := i_nlt rfl (show (0 : Int32).toInt = 0 by decide) c1
    refine ⟨fun c2 => ?_, fun c2 => ?_⟩
    · skip
      have f_5 : 0 ≤ (gI z 705).toInt ∧ (gI z 705).toInt ≤ 4 := ht.1 705
      have i_6 := i_le rfl rfl c2
      have g_7 : (0 : Int32).toInt = 0 := by decide
      exact hk ((0 : Int32)) (Or.inr ⟨rfl, (by omega)⟩)
    · skip
      have f_8 : 0 ≤ (gI z 705).toInt ∧ (gI z 705).toInt ≤ 4 := ht.1 705
      have i_9 := i_nle rfl rfl c2
      have g_10 : (1 : Int32).toInt = 1 := by decide
      exact hk ((1 : Int32)) (Or.inl ⟨rfl, (by omega)⟩)

set_option maxHeartbeats 2000000 in
theorem s_X0_setBase (b1 : Int32) (b2 : Int32) (b3 : Int32) (z : St) (P : St → Prop) (ht : TX z) (h0 : 0 ≤ b1.toInt ∧ b1.toInt ≤ 3) (h1 : 0 ≤ b2.toInt ∧ b2.toInt ≤ 23) (hk : ∀ (z2 : St), TX z2 → Same [] [9, 11] z z2 → (True) → P z2) : wp_X0_setBase b1 b2 b3 z P := by
  unfold wp_X0_setBase
  refine ⟨vin rfl (by omega) (by omega), ?_⟩
  refine ⟨vin (a_add (a_mul rfl (show (24 : Int32).toInt = 24 by decide) (by omega) (by omega)) rfl (by omega) (by omega)) (by omega) (by omega), ?_⟩
  refine ⟨vin rfl (by omega) (by omega), ?_⟩
  intro z1 ez1
  have tz1 : TX z1 := by rw [ez1]; exact Ty_wR ht trivial
  have oz1 : Same [] [9, 11] z z1 := (Same.rf (z := z)).r (by decide) ez1
  refine ⟨vin (a_add (a_mul rfl (show (24 : Int32).toInt = 24 by decide) (by omega) (by omega)) rfl (by omega) (by omega)) (by omega) (by omega), ?_⟩
  intro z2 ez2
  have tz2 : TX z2 := by rw [ez2]; exact Ty_wR tz1 trivial
  have oz2 : Same [] [9, 11] z z2 := oz1.r (by decide) ez2
  exact hk z2 tz2 oz2 trivial

set_option maxHeartbeats 2000000 in
theorem s_X8_base (b1 : Int32) (b2 : Int32) (b3 : Int32) (z : St) (P : Int32 → St → Prop) (ht : TX z)  (hk : ∀ (r : Int32) (z2 : St), TX z2 → Same [8] [9, 11] z z2 → ((((b2.toInt < 0 ∨ 23 < b2.toInt) ∨ (b3.toInt < 0 ∨ 5000 < b3.toInt)) ∧ r.toInt = -1) ∨ ((0 ≤ b2.toInt ∧ b2.toInt ≤ 23) ∧ (0 ≤ b3.toInt ∧ b3.toInt ≤ 5000) ∧ (b1.toInt < 0 ∨ (gI z 705).toInt ≤ b1.toInt) ∧ r.toInt = -2) ∨ ((0 ≤ b2.toInt ∧ b2.toInt ≤ 23) ∧ (0 ≤ b3.toInt ∧ b3.toInt ≤ 5000) ∧ 0 ≤ b1.toInt ∧ b1.toInt < (gI z 705).toInt ∧ r.toInt = 0)) → P r z2) : wp_X8_base b1 b2 b3 z P := by
  unfold wp_X8_base
  have g_1 : (23 : Int32).toInt = 23 := by decide
  refine s_X8_isWithin b2 ((23 : Int32)) z _ ht  (fun r2 hp_2 => ?_)
  rcases hp_2 with ⟨er2, hp_2⟩ | ⟨er2, hp_2⟩
  · subst er2
    intro K3 hK_3
    refine ⟨fun hc => absurd hc (by decide), fun _ => ?_⟩
    have g_4 : (5000 : Int32).toInt = 5000 := by decide
    refine s_X8_isWithin b3 ((5000 : Int32)) z _ ht  (fun r8 hp_5 => ?_)
    rcases hp_5 with ⟨er8, hp_5⟩ | ⟨er8, hp_5⟩
    · subst er8
      refine ⟨fun _ => ?_, fun hc => absurd hc (by decide)⟩
      refine s_X0_has b1 z _ ht  (fun r11 hp_6 => ?_)
      rcases hp_6 with ⟨er11, hp_6⟩ | ⟨er11, hp_6⟩
      · subst er11
        have f_7 : 0 ≤ (gI z 705).toInt ∧ (gI z 705).toInt ≤ 4 := ht.1 705
        refine ⟨fun _ => ?_, fun hc => absurd hc (by decide)⟩
        refine s_X0_setBase b1 b2 b3 z _ ht (by omega) (by omega) (fun z13 tz13 o_9 hp_8 => ?_)
        have oz13 : Same [8] [9, 11] z z13 := (Same.rf (z := z)).tr o_9 (by decide) (by decide)
        have g_10 : (0 : Int32).toInt = 0 := by decide
        refine s_X8_accept ((0 : Int32)) z13 _ tz13  (fun r16 z15 tz15 o_12 hp_11 => ?_)
        have oz15 : Same [8] [9, 11] z z15 := oz13.tr o_12 (by decide) (by decide)
        exact hk r16 z15 tz15 oz15 (by omega)
      · subst er11
        have f_13 : 0 ≤ (gI z 705).toInt ∧ (gI z 705).toInt ≤ 4 := ht.1 705
        refine ⟨fun hc => absurd hc (by decide), fun _ => ?_⟩
        have g_14 : (-2 : Int32).toInt = -2 := by decide
        refine s_X8_refuse ((-2 : Int32)) z _ ht  (fun r18 z17 tz17 o_16 hp_15 => ?_)
        have oz17 : Same [8] [9, 11] z z17 := (Same.rf (z := z)).tr o_16 (by decide) (by decide)
        exact hk r18 z17 tz17 oz17 (by omega)
    · subst er8
      refine ⟨fun hc => absurd hc (by decide), fun _ => ?_⟩
      refine hK_3  ?_
      have g_19 : (-1 : Int32).toInt = -1 := by decide
      refine s_X8_refuse ((-1 : Int32)) z _ ht  (fun r_17 z_18 tz_18 o_21 hp_20 => ?_)
      have oz_18 : Same [8] [9, 11] z z_18 := (Same.rf (z := z)).tr o_21 (by decide) (by decide)
      have f_22 : 0 ≤ (gI z 705).toInt ∧ (gI z 705).toInt ≤ 4 := ht.1 705
      exact hk r_17 z_18 tz_18 oz_18 (by omega)
  · subst er2
    intro K3 hK_23
    refine ⟨fun _ => ?_, fun hc => absurd (show ((0 : Int32)) = ((0 : Int32)) by decide) hc⟩
    refine hK_23  ?_
    have g_26 : (-1 : Int32).toInt = -1 := by decide
    refine s_X8_refuse ((-1 : Int32)) z _ ht  (fun r_24 z_25 tz_25 o_28 hp_27 => ?_)
    have oz_25 : Same [8] [9, 11] z z_25 := (Same.rf (z := z)).tr o_28 (by decide) (by decide)
    have f_29 : 0 ≤ (gI z 705).toInt ∧ (gI z 705).toInt ≤ 4 := ht.1 705
    exact hk r_24 z_25 tz_25 oz_25 (by omega)

set_option maxHeartbeats 2000000 in
theorem s_X8_cable (b1 : Int32) (z : St) (P : Int32 → St → Prop) (ht : TX z)  (hk : ∀ (r : Int32) (z2 : St), TX z2 → Same [8, 706] [] z z2 → (((b1.toInt < 0 ∨ 80000 < b1.toInt) ∧ r.toInt = -1 ∧ (gI z2 706).toInt = (gI z 706).toInt) ∨ ((0 ≤ b1.toInt ∧ b1.toInt ≤ 80000) ∧ r.toInt = (gI z 706).toInt ∧ (gI z2 706).toInt = b1.toInt)) → P r z2) : wp_X8_cable b1 z P := by
  unfold wp_X8_cable
  have g_1 : (80000 : Int32).toInt = 80000 := by decide
  refine s_X8_isWithin b1 ((80000 : Int32)) z _ ht  (fun r2 hp_2 => ?_)
  rcases hp_2 with ⟨er2, hp_2⟩ | ⟨er2, hp_2⟩
  · subst er2
    refine ⟨fun _ => ?_, fun hc => absurd hc (by decide)⟩
    intro x4 ex4
    have ix4 : x4.toInt = (gI z 706).toInt := by rw [ex4]
    intro z5 ez5
    have tz5 : TX z5 := by rw [ez5]; exact Ty_wI ht trivial
    have oz5 : Same [8, 706] [] z z5 := (Same.rf (z := z)).i (by decide) ez5
    refine s_X8_accept x4 z5 _ tz5  (fun r7 z6 tz6 o_4 hp_3 => ?_)
    have oz6 : Same [8, 706] [] z z6 := oz5.tr o_4 (by decide) (by decide)
    have q_5 := ((o_4.fi 706 (by decide))).trans (show (gI z5 706).toInt = b1.toInt by rw [ez5]; rfl)
    exact hk r7 z6 tz6 oz6 (by omega)
  · subst er2
    refine ⟨fun hc => absurd hc (by decide), fun _ => ?_⟩
    have g_6 : (-1 : Int32).toInt = -1 := by decide
    refine s_X8_refuse ((-1 : Int32)) z _ ht  (fun r9 z8 tz8 o_8 hp_7 => ?_)
    have oz8 : Same [8, 706] [] z z8 := (Same.rf (z := z)).tr o_8 (by decide) (by decide)
    have q_9 := (o_8.fi 706 (by decide))
    exact hk r9 z8 tz8 oz8 (by omega)

set_option maxHeartbeats 2000000 in
theorem s_X8_isNeed (b1 : Int32) (z : St) (P : Int32 → Prop) (ht : TX z)  (hk : ∀ r : Int32, (r = 1 ∧ (0 ≤ b1.toInt ∧ b1.toInt ≤ 5000)) ∨ (r = 0 ∧ (b1.toInt < 0 ∨ 5000 < b1.toInt)) → P r) : wp_X8_isNeed b1 z P := by
  unfold wp_X8_isNeed
  have g_1 : (5000 : Int32).toInt = 5000 := by decide
  refine s_X8_isWithin b1 ((5000 : Int32)) z _ ht  (fun r2 hp_2 => ?_)
  rcases hp_2 with ⟨er2, hp_2⟩ | ⟨er2, hp_2⟩
  · subst er2
    have g_3 : (1 : Int32).toInt = 1 := by decide
    refine ⟨Or.inr rfl, ?_⟩
    exact hk ((1 : Int32)) (Or.inl ⟨rfl, (by omega)⟩)
  · subst er2
    have g_4 : (0 : Int32).toInt = 0 := by decide
    refine ⟨Or.inl rfl, ?_⟩
    exact hk ((0 : Int32)) (Or.inr ⟨rfl, (by omega)⟩)

theorem RX_add {z : St} {m : Nat} {b2 b3 b4 : Int32} {z7 : St} (h : RX z) (hm : (m : Int) = (gI z 1308).toInt) (hw : b3.toInt - b2.toInt ≤ 23) (g15 : ∀ j, gF z7 15 j = if j = m then b2 else gF z 15 j) (g16 : ∀ j, gF z7 16 j = if j = m then b3 else gF z 16 j) (g17 : ∀ j, gF z7 17 j = if j = m then b4 else gF z 17 j) (g19 : ∀ j, gF z7 19 j = if j = m then 0 else gF z 19 j) (g20 : ∀ j, gF z7 20 j = if j = m then -1 else gF z 20 j) (gs : (gI z7 1308).toInt = (gI z 1308).toInt + 1) : RX z7 := by
  have e0 : (0 : Int32).toInt = 0 := rfl
  have e1 : (-1 : Int32).toInt = -1 := rfl
  refine ⟨fun j => ?_, fun j => ?_, fun j hj => ?_, fun j hj hs => ?_⟩
  · rw [g19, g20, g17]; by_cases e : j = m
    · rw [if_pos e]; exact Or.inl e0
    · rw [if_neg e, if_neg e, if_neg e]; exact h.1 j
  · rw [g16, g15]; by_cases e : j = m
    · rw [if_pos e, if_pos e]; exact hw
    · rw [if_neg e, if_neg e]; exact h.2.1 j
  · rw [g19]; by_cases e : j = m
    · rw [if_pos e]; exact e0
    · rw [if_neg e]; exact h.2.2.1 j (by omega)
  · rw [g19] at hs; rw [g20]
    by_cases e : j = m
    · rw [if_pos e]; exact e1
    · rw [if_neg e] at hs; rw [if_neg e]; exact h.2.2.2 j (by omega) hs
theorem s_X1_add (b1 b2 b3 b4 : Int32) (z : St) (P : Int32 → St → Prop) (ht : TX z) (hrx : RX z) (h0 : 0 ≤ b1.toInt ∧ b1.toInt ≤ 3) (h1 : 0 ≤ b2.toInt ∧ b2.toInt ≤ 167) (h2 : 0 ≤ b3.toInt ∧ b3.toInt ≤ 167) (h3 : 0 ≤ b4.toInt ∧ b4.toInt ≤ 4) (h4 : (gI z 1308).toInt ≤ 15) (h5 : b3.toInt - b2.toInt ≤ 23) (hk : ∀ (r : Int32) (z2 : St), TX z2 → Same [1308] [14, 15, 16, 17, 19, 20] z z2 → RX z2 → ((gI z2 1308).toInt = (gI z 1308).toInt + 1 ∧ r.toInt = (gI z 1308).toInt) → P r z2) : wp_X1_add b1 b2 b3 b4 z P := by
  unfold wp_X1_add
  have f : 0 ≤ (gI z 1308).toInt ∧ (gI z 1308).toInt ≤ 16 := ht.1 1308
  have hv : vp_in (gI z 1308) 16 := vin rfl (by omega) (by omega)
  have e1 : (1 : Int32).toInt = 1 := rfl
  have em : (-1 : Int32).toInt = -1 := rfl
  have e0 : (0 : Int32).toInt = 0 := rfl
  refine ⟨hv, ?_⟩
  intro z1 ez1
  have t1 : TX z1 := by rw [ez1]; exact Ty_wR ht h0
  have o1 : Same [1308] [14, 15, 16, 17, 19, 20] z z1 := Same.rf.r (by decide) ez1
  have q1 : gI z1 1308 = gI z 1308 := by rw [ez1]; rfl
  refine ⟨by rw [q1]; exact hv, ?_⟩
  intro z2 ez2
  have t2 : TX z2 := by rw [ez2]; exact Ty_wR t1 h1
  have o2 : Same [1308] [14, 15, 16, 17, 19, 20] z z2 := o1.r (by decide) ez2
  have q2 : gI z2 1308 = gI z 1308 := by rw [ez2]; exact q1
  refine ⟨by rw [q2]; exact hv, ?_⟩
  intro z3 ez3
  have t3 : TX z3 := by rw [ez3]; exact Ty_wR t2 h2
  have o3 : Same [1308] [14, 15, 16, 17, 19, 20] z z3 := o2.r (by decide) ez3
  have q3 : gI z3 1308 = gI z 1308 := by rw [ez3]; exact q2
  refine ⟨by rw [q3]; exact hv, ?_⟩
  intro z4 ez4
  have t4 : TX z4 := by rw [ez4]; exact Ty_wR t3 h3
  have o4 : Same [1308] [14, 15, 16, 17, 19, 20] z z4 := o3.r (by decide) ez4
  have q4 : gI z4 1308 = gI z 1308 := by rw [ez4]; exact q3
  refine ⟨by rw [q4]; exact hv, ?_⟩
  intro z5 ez5
  have t5 : TX z5 := by rw [ez5]; exact Ty_wR t4 (show 0 ≤ (0 : Int32).toInt ∧ (0 : Int32).toInt ≤ 2 by omega)
  have o5 : Same [1308] [14, 15, 16, 17, 19, 20] z z5 := o4.r (by decide) ez5
  have q5 : gI z5 1308 = gI z 1308 := by rw [ez5]; exact q4
  refine ⟨by rw [q5]; exact hv, ?_⟩
  intro z6 ez6
  have t6 : TX z6 := by rw [ez6]; exact Ty_wR t5 (show -1 ≤ (-1 : Int32).toInt ∧ (-1 : Int32).toInt ≤ 167 by omega)
  have o6 : Same [1308] [14, 15, 16, 17, 19, 20] z z6 := o5.r (by decide) ez6
  have q6 : gI z6 1308 = gI z 1308 := by rw [ez6]; exact q5
  intro z7 ez7
  have i7 : (gI z7 1308).toInt = (gI z 1308).toInt + 1 := by
    rw [ez7]
    show ((gI z6 1308) + (1 : Int32)).toInt = _
    rw [q6]
    exact a_add rfl e1 (by omega) (by omega)
  have t7 : TX z7 := by
    rw [ez7]
    exact Ty_wI t6 (show 0 ≤ ((gI z6 1308) + (1 : Int32)).toInt ∧ ((gI z6 1308) + (1 : Int32)).toInt ≤ 16 from by rw [q6, a_add rfl e1 (by omega) (by omega)]; omega)
  have o7 : Same [1308] [14, 15, 16, 17, 19, 20] z z7 := o6.i (by decide) ez7
  have g15 : ∀ j, gF z7 15 j = if j = (gI z 1308).toNatClampNeg then b2 else gF z 15 j := fun j => by
    rw [ez7, ez6, ez5, ez4, ez3]; show gF z2 15 j = _; rw [ez2, gF_upd, q1, ez1]; rfl
  have g16 : ∀ j, gF z7 16 j = if j = (gI z 1308).toNatClampNeg then b3 else gF z 16 j := fun j => by
    rw [ez7, ez6, ez5, ez4]; show gF z3 16 j = _; rw [ez3, gF_upd, q2, ez2, ez1]; rfl
  have g17 : ∀ j, gF z7 17 j = if j = (gI z 1308).toNatClampNeg then b4 else gF z 17 j := fun j => by
    rw [ez7, ez6, ez5]; show gF z4 17 j = _; rw [ez4, gF_upd, q3, ez3, ez2, ez1]; rfl
  have g19 : ∀ j, gF z7 19 j = if j = (gI z 1308).toNatClampNeg then 0 else gF z 19 j := fun j => by
    rw [ez7, ez6]; show gF z5 19 j = _; rw [ez5, gF_upd, q4, ez4, ez3, ez2, ez1]; rfl
  have g20 : ∀ j, gF z7 20 j = if j = (gI z 1308).toNatClampNeg then -1 else gF z 20 j := fun j => by
    rw [ez7]; show gF z6 20 j = _; rw [ez6, gF_upd, q5, ez5, ez4, ez3, ez2, ez1]; rfl
  exact hk _ z7 t7 o7 (RX_add hrx (clampI hv) h5 g15 g16 g17 g19 g20 i7) ⟨i7, by rw [a_sub (x := gI z7 1308) rfl e1 (by omega) (by omega)]; omega⟩

set_option maxHeartbeats 2000000 in
theorem s_X1_setNeeds (b1 : Int32) (b2 : Int32) (b3 : Int32) (b4 : Int32) (b5 : Int32) (z : St) (P : St → Prop) (ht : TX z) (h0 : 0 ≤ b1.toInt ∧ b1.toInt ≤ 15) (hk : ∀ (z2 : St), TX z2 → Same [] [18] z z2 → (True) → P z2) : wp_X1_setNeeds b1 b2 b3 b4 b5 z P := by
  unfold wp_X1_setNeeds
  refine ⟨vin (a_mul rfl (show (4 : Int32).toInt = 4 by decide) (by omega) (by omega)) (by omega) (by omega), ?_⟩
  intro z1 ez1
  have tz1 : TX z1 := by rw [ez1]; exact Ty_wR ht trivial
  have oz1 : Same [] [18] z z1 := (Same.rf (z := z)).r (by decide) ez1
  refine ⟨vin (a_add (a_mul rfl (show (4 : Int32).toInt = 4 by decide) (by omega) (by omega)) (show (1 : Int32).toInt = 1 by decide) (by omega) (by omega)) (by omega) (by omega), ?_⟩
  intro z2 ez2
  have tz2 : TX z2 := by rw [ez2]; exact Ty_wR tz1 trivial
  have oz2 : Same [] [18] z z2 := oz1.r (by decide) ez2
  refine ⟨vin (a_add (a_mul rfl (show (4 : Int32).toInt = 4 by decide) (by omega) (by omega)) (show (2 : Int32).toInt = 2 by decide) (by omega) (by omega)) (by omega) (by omega), ?_⟩
  intro z3 ez3
  have tz3 : TX z3 := by rw [ez3]; exact Ty_wR tz2 trivial
  have oz3 : Same [] [18] z z3 := oz2.r (by decide) ez3
  refine ⟨vin (a_add (a_mul rfl (show (4 : Int32).toInt = 4 by decide) (by omega) (by omega)) (show (3 : Int32).toInt = 3 by decide) (by omega) (by omega)) (by omega) (by omega), ?_⟩
  intro z4 ez4
  have tz4 : TX z4 := by rw [ez4]; exact Ty_wR tz3 trivial
  have oz4 : Same [] [18] z z4 := oz3.r (by decide) ez4
  exact hk z4 tz4 oz4 trivial

set_option maxHeartbeats 2000000 in
theorem s_X8_job (b1 : Int32) (b2 : Int32) (b3 : Int32) (b4 : Int32) (b5 : Int32) (b6 : Int32) (b7 : Int32) (b8 : Int32) (z : St) (P : Int32 → St → Prop) (ht : TX z) (hrx : RX z)  (hk : ∀ (r : Int32) (z2 : St), TX z2 → Same [8, 1308] [14, 15, 16, 17, 18, 19, 20] z z2 → RX z2 → (True) → P r z2) : wp_X8_job b1 b2 b3 b4 b5 b6 b7 b8 z P := by
  unfold wp_X8_job
  refine s_X8_isHour b2 z _ ht  (fun r2 hp_1 => ?_)
  rcases hp_1 with ⟨er2, hp_1⟩ | ⟨er2, hp_1⟩
  · subst er2
    intro K3 hK_2
    refine ⟨fun hc => absurd hc (by decide), fun _ => ?_⟩
    refine s_X8_isHour b3 z _ ht  (fun r8 hp_3 => ?_)
    rcases hp_3 with ⟨er8, hp_3⟩ | ⟨er8, hp_3⟩
    · subst er8
      refine ⟨fun hc => absurd hc (by decide), fun _ => ?_⟩
      refine ⟨fun c10 => ?_, fun c10 => ?_⟩
      · skip
        have i_4 := i_lt rfl rfl c10
        refine hK_2  ?_
        have g_7 : (-1 : Int32).toInt = -1 := by decide
        refine s_X8_refuse ((-1 : Int32)) z _ ht  (fun r_5 z_6 tz_6 o_9 hp_8 => ?_)
        have oz_6 : Same [8, 1308] [14, 15, 16, 17, 18, 19, 20] z z_6 := (Same.rf (z := z)).tr o_9 (by decide) (by decide)
        have xz_6 : RX z_6 := RX_same hrx o_9 (by decide) (by decide) (by decide) (by decide) (by decide) (by decide)
        exact hk r_5 z_6 tz_6 oz_6 xz_6 trivial
      · skip
        have i_10 := i_nlt rfl rfl c10
        refine ⟨fun c11 => ?_, fun c11 => ?_⟩
        · skip
          have i_11 := i_le (show (24 : Int32).toInt = 24 by decide) (a_sub rfl rfl (by omega) (by omega)) c11
          refine hK_2  ?_
          have g_14 : (-1 : Int32).toInt = -1 := by decide
          refine s_X8_refuse ((-1 : Int32)) z _ ht  (fun r_12 z_13 tz_13 o_16 hp_15 => ?_)
          have oz_13 : Same [8, 1308] [14, 15, 16, 17, 18, 19, 20] z z_13 := (Same.rf (z := z)).tr o_16 (by decide) (by decide)
          have xz_13 : RX z_13 := RX_same hrx o_16 (by decide) (by decide) (by decide) (by decide) (by decide) (by decide)
          exact hk r_12 z_13 tz_13 oz_13 xz_13 trivial
        · skip
          have i_17 := i_nle (show (24 : Int32).toInt = 24 by decide) (a_sub rfl rfl (by omega) (by omega)) c11
          refine ⟨fun c12 => ?_, fun c12 => ?_⟩
          · skip
            have i_18 := i_lt rfl (show (1 : Int32).toInt = 1 by decide) c12
            refine hK_2  ?_
            have g_21 : (-1 : Int32).toInt = -1 := by decide
            refine s_X8_refuse ((-1 : Int32)) z _ ht  (fun r_19 z_20 tz_20 o_23 hp_22 => ?_)
            have oz_20 : Same [8, 1308] [14, 15, 16, 17, 18, 19, 20] z z_20 := (Same.rf (z := z)).tr o_23 (by decide) (by decide)
            have xz_20 : RX z_20 := RX_same hrx o_23 (by decide) (by decide) (by decide) (by decide) (by decide) (by decide)
            exact hk r_19 z_20 tz_20 oz_20 xz_20 trivial
          · skip
            have i_24 := i_nlt rfl (show (1 : Int32).toInt = 1 by decide) c12
            refine ⟨fun c13 => ?_, fun c13 => ?_⟩
            · skip
              have i_25 := i_le rfl (show (4 : Int32).toInt = 4 by decide) c13
              refine s_X8_isNeed b5 z _ ht  (fun r15 hp_26 => ?_)
              rcases hp_26 with ⟨er15, hp_26⟩ | ⟨er15, hp_26⟩
              · subst er15
                intro K16 hK_27
                refine ⟨fun hc => absurd hc (by decide), fun _ => ?_⟩
                intro K20 hK_28
                refine ⟨fun c45 => ?_, fun c45 => ?_⟩
                · skip
                  have i_29 := i_le rfl (show (1 : Int32).toInt = 1 by decide) c45
                  refine hK_28  ?_
                  intro K_30 hK_50
                  refine ⟨fun c_47 => ?_, fun c_47 => ?_⟩
                  · skip
                    have i_51 := i_le rfl (show (2 : Int32).toInt = 2 by decide) c_47
                    refine hK_50  ?_
                    intro K_52 hK_68
                    refine ⟨fun c_65 => ?_, fun c_65 => ?_⟩
                    · skip
                      have i_69 := i_le rfl (show (3 : Int32).toInt = 3 by decide) c_65
                      refine hK_68  ?_
                      refine s_X0_has b1 z _ ht  (fun r_70 hp_82 => ?_)
                      rcases hp_82 with ⟨er_70, hp_82⟩ | ⟨er_70, hp_82⟩
                      · subst er_70
                        have f_83 : 0 ≤ (gI z 705).toInt ∧ (gI z 705).toInt ≤ 4 := ht.1 705
                        refine ⟨fun _ => ?_, fun hc => absurd hc (by decide)⟩
                        refine ⟨fun c_72 => ?_, fun c_72 => ?_⟩
                        · skip
                          have f_84 : 0 ≤ (gI z 1308).toInt ∧ (gI z 1308).toInt ≤ 16 := ht.1 1308
                          have i_85 := i_lt rfl (show (16 : Int32).toInt = 16 by decide) c_72
                          refine s_X1_add b1 b2 b3 b4 z _ ht hrx (by omega) (by omega) (by omega) (by omega) (by omega) (by omega) (fun r_73 z_74 tz_74 o_87 xz_74 hp_86 => ?_)
                          have oz_74 : Same [8, 1308] [14, 15, 16, 17, 18, 19, 20] z z_74 := (Same.rf (z := z)).tr o_87 (by decide) (by decide)
                          have f_88 : 0 ≤ (gI z_74 1308).toInt ∧ (gI z_74 1308).toInt ≤ 16 := tz_74.1 1308
                          refine s_X1_setNeeds r_73 b5 b6 b7 b8 z_74 _ tz_74 (by omega) (fun z_75 tz_75 o_90 hp_89 => ?_)
                          have oz_75 : Same [8, 1308] [14, 15, 16, 17, 18, 19, 20] z z_75 := oz_74.tr o_90 (by decide) (by decide)
                          have xz_75 : RX z_75 := RX_same xz_74 o_90 (by decide) (by decide) (by decide) (by decide) (by decide) (by decide)
                          refine s_X8_accept r_73 z_75 _ tz_75  (fun r_76 z_77 tz_77 o_92 hp_91 => ?_)
                          have oz_77 : Same [8, 1308] [14, 15, 16, 17, 18, 19, 20] z z_77 := oz_75.tr o_92 (by decide) (by decide)
                          have xz_77 : RX z_77 := RX_same xz_75 o_92 (by decide) (by decide) (by decide) (by decide) (by decide) (by decide)
                          exact hk r_76 z_77 tz_77 oz_77 xz_77 trivial
                        · skip
                          have f_93 : 0 ≤ (gI z 1308).toInt ∧ (gI z 1308).toInt ≤ 16 := ht.1 1308
                          have i_94 := i_nlt rfl (show (16 : Int32).toInt = 16 by decide) c_72
                          have g_95 : (-5 : Int32).toInt = -5 := by decide
                          refine s_X8_refuse ((-5 : Int32)) z _ ht  (fun r_78 z_79 tz_79 o_97 hp_96 => ?_)
                          have oz_79 : Same [8, 1308] [14, 15, 16, 17, 18, 19, 20] z z_79 := (Same.rf (z := z)).tr o_97 (by decide) (by decide)
                          have xz_79 : RX z_79 := RX_same hrx o_97 (by decide) (by decide) (by decide) (by decide) (by decide) (by decide)
                          exact hk r_78 z_79 tz_79 oz_79 xz_79 trivial
                      · subst er_70
                        have f_98 : 0 ≤ (gI z 705).toInt ∧ (gI z 705).toInt ≤ 4 := ht.1 705
                        refine ⟨fun hc => absurd hc (by decide), fun _ => ?_⟩
                        have g_99 : (-2 : Int32).toInt = -2 := by decide
                        refine s_X8_refuse ((-2 : Int32)) z _ ht  (fun r_80 z_81 tz_81 o_101 hp_100 => ?_)
                        have oz_81 : Same [8, 1308] [14, 15, 16, 17, 18, 19, 20] z z_81 := (Same.rf (z := z)).tr o_101 (by decide) (by decide)
                        have xz_81 : RX z_81 := RX_same hrx o_101 (by decide) (by decide) (by decide) (by decide) (by decide) (by decide)
                        exact hk r_80 z_81 tz_81 oz_81 xz_81 trivial
                    · skip
                      have i_102 := i_nle rfl (show (3 : Int32).toInt = 3 by decide) c_65
                      refine s_X8_isNeed b8 z _ ht  (fun r_66 hp_103 => ?_)
                      rcases hp_103 with ⟨er_66, hp_103⟩ | ⟨er_66, hp_103⟩
                      · subst er_66
                        refine ⟨fun _ => ?_, fun hc => absurd hc (by decide)⟩
                        refine hK_68  ?_
                        refine s_X0_has b1 z _ ht  (fun r_104 hp_116 => ?_)
                        rcases hp_116 with ⟨er_104, hp_116⟩ | ⟨er_104, hp_116⟩
                        · subst er_104
                          have f_117 : 0 ≤ (gI z 705).toInt ∧ (gI z 705).toInt ≤ 4 := ht.1 705
                          refine ⟨fun _ => ?_, fun hc => absurd hc (by decide)⟩
                          refine ⟨fun c_106 => ?_, fun c_106 => ?_⟩
                          · skip
                            have f_118 : 0 ≤ (gI z 1308).toInt ∧ (gI z 1308).toInt ≤ 16 := ht.1 1308
                            have i_119 := i_lt rfl (show (16 : Int32).toInt = 16 by decide) c_106
                            refine s_X1_add b1 b2 b3 b4 z _ ht hrx (by omega) (by omega) (by omega) (by omega) (by omega) (by omega) (fun r_107 z_108 tz_108 o_121 xz_108 hp_120 => ?_)
                            have oz_108 : Same [8, 1308] [14, 15, 16, 17, 18, 19, 20] z z_108 := (Same.rf (z := z)).tr o_121 (by decide) (by decide)
                            have f_122 : 0 ≤ (gI z_108 1308).toInt ∧ (gI z_108 1308).toInt ≤ 16 := tz_108.1 1308
                            refine s_X1_setNeeds r_107 b5 b6 b7 b8 z_108 _ tz_108 (by omega) (fun z_109 tz_109 o_124 hp_123 => ?_)
                            have oz_109 : Same [8, 1308] [14, 15, 16, 17, 18, 19, 20] z z_109 := oz_108.tr o_124 (by decide) (by decide)
                            have xz_109 : RX z_109 := RX_same xz_108 o_124 (by decide) (by decide) (by decide) (by decide) (by decide) (by decide)
                            refine s_X8_accept r_107 z_109 _ tz_109  (fun r_110 z_111 tz_111 o_126 hp_125 => ?_)
                            have oz_111 : Same [8, 1308] [14, 15, 16, 17, 18, 19, 20] z z_111 := oz_109.tr o_126 (by decide) (by decide)
                            have xz_111 : RX z_111 := RX_same xz_109 o_126 (by decide) (by decide) (by decide) (by decide) (by decide) (by decide)
                            exact hk r_110 z_111 tz_111 oz_111 xz_111 trivial
                          · skip
                            have f_127 : 0 ≤ (gI z 1308).toInt ∧ (gI z 1308).toInt ≤ 16 := ht.1 1308
                            have i_128 := i_nlt rfl (show (16 : Int32).toInt = 16 by decide) c_106
                            have g_129 : (-5 : Int32).toInt = -5 := by decide
                            refine s_X8_refuse ((-5 : Int32)) z _ ht  (fun r_112 z_113 tz_113 o_131 hp_130 => ?_)
                            have oz_113 : Same [8, 1308] [14, 15, 16, 17, 18, 19, 20] z z_113 := (Same.rf (z := z)).tr o_131 (by decide) (by decide)
                            have xz_113 : RX z_113 := RX_same hrx o_131 (by decide) (by decide) (by decide) (by decide) (by decide) (by decide)
                            exact hk r_112 z_113 tz_113 oz_113 xz_113 trivial
                        · subst er_104
                          have f_132 : 0 ≤ (gI z 705).toInt ∧ (gI z 705).toInt ≤ 4 := ht.1 705
                          refine ⟨fun hc => absurd hc (by decide), fun _ => ?_⟩
                          have g_133 : (-2 : Int32).toInt = -2 := by decide
                          refine s_X8_refuse ((-2 : Int32)) z _ ht  (fun r_114 z_115 tz_115 o_135 hp_134 => ?_)
                          have oz_115 : Same [8, 1308] [14, 15, 16, 17, 18, 19, 20] z z_115 := (Same.rf (z := z)).tr o_135 (by decide) (by decide)
                          have xz_115 : RX z_115 := RX_same hrx o_135 (by decide) (by decide) (by decide) (by decide) (by decide) (by decide)
                          exact hk r_114 z_115 tz_115 oz_115 xz_115 trivial
                      · subst er_66
                        refine ⟨fun hc => absurd hc (by decide), fun _ => ?_⟩
                        refine hK_27  ?_
                        have g_138 : (-1 : Int32).toInt = -1 := by decide
                        refine s_X8_refuse ((-1 : Int32)) z _ ht  (fun r_136 z_137 tz_137 o_140 hp_139 => ?_)
                        have oz_137 : Same [8, 1308] [14, 15, 16, 17, 18, 19, 20] z z_137 := (Same.rf (z := z)).tr o_140 (by decide) (by decide)
                        have xz_137 : RX z_137 := RX_same hrx o_140 (by decide) (by decide) (by decide) (by decide) (by decide) (by decide)
                        exact hk r_136 z_137 tz_137 oz_137 xz_137 trivial
                  · skip
                    have i_141 := i_nle rfl (show (2 : Int32).toInt = 2 by decide) c_47
                    refine s_X8_isNeed b7 z _ ht  (fun r_48 hp_142 => ?_)
                    rcases hp_142 with ⟨er_48, hp_142⟩ | ⟨er_48, hp_142⟩
                    · subst er_48
                      refine ⟨fun hc => absurd hc (by decide), fun _ => ?_⟩
                      refine hK_50  ?_
                      intro K_143 hK_159
                      refine ⟨fun c_156 => ?_, fun c_156 => ?_⟩
                      · skip
                        have i_160 := i_le rfl (show (3 : Int32).toInt = 3 by decide) c_156
                        refine hK_159  ?_
                        refine s_X0_has b1 z _ ht  (fun r_161 hp_173 => ?_)
                        rcases hp_173 with ⟨er_161, hp_173⟩ | ⟨er_161, hp_173⟩
                        · subst er_161
                          have f_174 : 0 ≤ (gI z 705).toInt ∧ (gI z 705).toInt ≤ 4 := ht.1 705
                          refine ⟨fun _ => ?_, fun hc => absurd hc (by decide)⟩
                          refine ⟨fun c_163 => ?_, fun c_163 => ?_⟩
                          · skip
                            have f_175 : 0 ≤ (gI z 1308).toInt ∧ (gI z 1308).toInt ≤ 16 := ht.1 1308
                            have i_176 := i_lt rfl (show (16 : Int32).toInt = 16 by decide) c_163
                            refine s_X1_add b1 b2 b3 b4 z _ ht hrx (by omega) (by omega) (by omega) (by omega) (by omega) (by omega) (fun r_164 z_165 tz_165 o_178 xz_165 hp_177 => ?_)
                            have oz_165 : Same [8, 1308] [14, 15, 16, 17, 18, 19, 20] z z_165 := (Same.rf (z := z)).tr o_178 (by decide) (by decide)
                            have f_179 : 0 ≤ (gI z_165 1308).toInt ∧ (gI z_165 1308).toInt ≤ 16 := tz_165.1 1308
                            refine s_X1_setNeeds r_164 b5 b6 b7 b8 z_165 _ tz_165 (by omega) (fun z_166 tz_166 o_181 hp_180 => ?_)
                            have oz_166 : Same [8, 1308] [14, 15, 16, 17, 18, 19, 20] z z_166 := oz_165.tr o_181 (by decide) (by decide)
                            have xz_166 : RX z_166 := RX_same xz_165 o_181 (by decide) (by decide) (by decide) (by decide) (by decide) (by decide)
                            refine s_X8_accept r_164 z_166 _ tz_166  (fun r_167 z_168 tz_168 o_183 hp_182 => ?_)
                            have oz_168 : Same [8, 1308] [14, 15, 16, 17, 18, 19, 20] z z_168 := oz_166.tr o_183 (by decide) (by decide)
                            have xz_168 : RX z_168 := RX_same xz_166 o_183 (by decide) (by decide) (by decide) (by decide) (by decide) (by decide)
                            exact hk r_167 z_168 tz_168 oz_168 xz_168 trivial
                          · skip
                            have f_184 : 0 ≤ (gI z 1308).toInt ∧ (gI z 1308).toInt ≤ 16 := ht.1 1308
                            have i_185 := i_nlt rfl (show (16 : Int32).toInt = 16 by decide) c_163
                            have g_186 : (-5 : Int32).toInt = -5 := by decide
                            refine s_X8_refuse ((-5 : Int32)) z _ ht  (fun r_169 z_170 tz_170 o_188 hp_187 => ?_)
                            have oz_170 : Same [8, 1308] [14, 15, 16, 17, 18, 19, 20] z z_170 := (Same.rf (z := z)).tr o_188 (by decide) (by decide)
                            have xz_170 : RX z_170 := RX_same hrx o_188 (by decide) (by decide) (by decide) (by decide) (by decide) (by decide)
                            exact hk r_169 z_170 tz_170 oz_170 xz_170 trivial
                        · subst er_161
                          have f_189 : 0 ≤ (gI z 705).toInt ∧ (gI z 705).toInt ≤ 4 := ht.1 705
                          refine ⟨fun hc => absurd hc (by decide), fun _ => ?_⟩
                          have g_190 : (-2 : Int32).toInt = -2 := by decide
                          refine s_X8_refuse ((-2 : Int32)) z _ ht  (fun r_171 z_172 tz_172 o_192 hp_191 => ?_)
                          have oz_172 : Same [8, 1308] [14, 15, 16, 17, 18, 19, 20] z z_172 := (Same.rf (z := z)).tr o_192 (by decide) (by decide)
                          have xz_172 : RX z_172 := RX_same hrx o_192 (by decide) (by decide) (by decide) (by decide) (by decide) (by decide)
                          exact hk r_171 z_172 tz_172 oz_172 xz_172 trivial
                      · skip
                        have i_193 := i_nle rfl (show (3 : Int32).toInt = 3 by decide) c_156
                        refine s_X8_isNeed b8 z _ ht  (fun r_157 hp_194 => ?_)
                        rcases hp_194 with ⟨er_157, hp_194⟩ | ⟨er_157, hp_194⟩
                        · subst er_157
                          refine ⟨fun _ => ?_, fun hc => absurd hc (by decide)⟩
                          refine hK_159  ?_
                          refine s_X0_has b1 z _ ht  (fun r_195 hp_207 => ?_)
                          rcases hp_207 with ⟨er_195, hp_207⟩ | ⟨er_195, hp_207⟩
                          · subst er_195
                            have f_208 : 0 ≤ (gI z 705).toInt ∧ (gI z 705).toInt ≤ 4 := ht.1 705
                            refine ⟨fun _ => ?_, fun hc => absurd hc (by decide)⟩
                            refine ⟨fun c_197 => ?_, fun c_197 => ?_⟩
                            · skip
                              have f_209 : 0 ≤ (gI z 1308).toInt ∧ (gI z 1308).toInt ≤ 16 := ht.1 1308
                              have i_210 := i_lt rfl (show (16 : Int32).toInt = 16 by decide) c_197
                              refine s_X1_add b1 b2 b3 b4 z _ ht hrx (by omega) (by omega) (by omega) (by omega) (by omega) (by omega) (fun r_198 z_199 tz_199 o_212 xz_199 hp_211 => ?_)
                              have oz_199 : Same [8, 1308] [14, 15, 16, 17, 18, 19, 20] z z_199 := (Same.rf (z := z)).tr o_212 (by decide) (by decide)
                              have f_213 : 0 ≤ (gI z_199 1308).toInt ∧ (gI z_199 1308).toInt ≤ 16 := tz_199.1 1308
                              refine s_X1_setNeeds r_198 b5 b6 b7 b8 z_199 _ tz_199 (by omega) (fun z_200 tz_200 o_215 hp_214 => ?_)
                              have oz_200 : Same [8, 1308] [14, 15, 16, 17, 18, 19, 20] z z_200 := oz_199.tr o_215 (by decide) (by decide)
                              have xz_200 : RX z_200 := RX_same xz_199 o_215 (by decide) (by decide) (by decide) (by decide) (by decide) (by decide)
                              refine s_X8_accept r_198 z_200 _ tz_200  (fun r_201 z_202 tz_202 o_217 hp_216 => ?_)
                              have oz_202 : Same [8, 1308] [14, 15, 16, 17, 18, 19, 20] z z_202 := oz_200.tr o_217 (by decide) (by decide)
                              have xz_202 : RX z_202 := RX_same xz_200 o_217 (by decide) (by decide) (by decide) (by decide) (by decide) (by decide)
                              exact hk r_201 z_202 tz_202 oz_202 xz_202 trivial
                            · skip
                              have f_218 : 0 ≤ (gI z 1308).toInt ∧ (gI z 1308).toInt ≤ 16 := ht.1 1308
                              have i_219 := i_nlt rfl (show (16 : Int32).toInt = 16 by decide) c_197
                              have g_220 : (-5 : Int32).toInt = -5 := by decide
                              refine s_X8_refuse ((-5 : Int32)) z _ ht  (fun r_203 z_204 tz_204 o_222 hp_221 => ?_)
                              have oz_204 : Same [8, 1308] [14, 15, 16, 17, 18, 19, 20] z z_204 := (Same.rf (z := z)).tr o_222 (by decide) (by decide)
                              have xz_204 : RX z_204 := RX_same hrx o_222 (by decide) (by decide) (by decide) (by decide) (by decide) (by decide)
                              exact hk r_203 z_204 tz_204 oz_204 xz_204 trivial
                          · subst er_195
                            have f_223 : 0 ≤ (gI z 705).toInt ∧ (gI z 705).toInt ≤ 4 := ht.1 705
                            refine ⟨fun hc => absurd hc (by decide), fun _ => ?_⟩
                            have g_224 : (-2 : Int32).toInt = -2 := by decide
                            refine s_X8_refuse ((-2 : Int32)) z _ ht  (fun r_205 z_206 tz_206 o_226 hp_225 => ?_)
                            have oz_206 : Same [8, 1308] [14, 15, 16, 17, 18, 19, 20] z z_206 := (Same.rf (z := z)).tr o_226 (by decide) (by decide)
                            have xz_206 : RX z_206 := RX_same hrx o_226 (by decide) (by decide) (by decide) (by decide) (by decide) (by decide)
                            exact hk r_205 z_206 tz_206 oz_206 xz_206 trivial
                        · subst er_157
                          refine ⟨fun hc => absurd hc (by decide), fun _ => ?_⟩
                          refine hK_27  ?_
                          have g_229 : (-1 : Int32).toInt = -1 := by decide
                          refine s_X8_refuse ((-1 : Int32)) z _ ht  (fun r_227 z_228 tz_228 o_231 hp_230 => ?_)
                          have oz_228 : Same [8, 1308] [14, 15, 16, 17, 18, 19, 20] z z_228 := (Same.rf (z := z)).tr o_231 (by decide) (by decide)
                          have xz_228 : RX z_228 := RX_same hrx o_231 (by decide) (by decide) (by decide) (by decide) (by decide) (by decide)
                          exact hk r_227 z_228 tz_228 oz_228 xz_228 trivial
                    · subst er_48
                      refine ⟨fun _ => ?_, fun hc => absurd (show ((0 : Int32)) = ((0 : Int32)) by decide) hc⟩
                      refine hK_27  ?_
                      have g_234 : (-1 : Int32).toInt = -1 := by decide
                      refine s_X8_refuse ((-1 : Int32)) z _ ht  (fun r_232 z_233 tz_233 o_236 hp_235 => ?_)
                      have oz_233 : Same [8, 1308] [14, 15, 16, 17, 18, 19, 20] z z_233 := (Same.rf (z := z)).tr o_236 (by decide) (by decide)
                      have xz_233 : RX z_233 := RX_same hrx o_236 (by decide) (by decide) (by decide) (by decide) (by decide) (by decide)
                      exact hk r_232 z_233 tz_233 oz_233 xz_233 trivial
                · skip
                  have i_237 := i_nle rfl (show (1 : Int32).toInt = 1 by decide) c45
                  refine s_X8_isNeed b6 z _ ht  (fun r47 hp_238 => ?_)
                  rcases hp_238 with ⟨er47, hp_238⟩ | ⟨er47, hp_238⟩
                  · subst er47
                    refine ⟨fun hc => absurd hc (by decide), fun _ => ?_⟩
                    refine hK_28  ?_
                    intro K_239 hK_259
                    refine ⟨fun c_256 => ?_, fun c_256 => ?_⟩
                    · skip
                      have i_260 := i_le rfl (show (2 : Int32).toInt = 2 by decide) c_256
                      refine hK_259  ?_
                      intro K_261 hK_277
                      refine ⟨fun c_274 => ?_, fun c_274 => ?_⟩
                      · skip
                        have i_278 := i_le rfl (show (3 : Int32).toInt = 3 by decide) c_274
                        refine hK_277  ?_
                        refine s_X0_has b1 z _ ht  (fun r_279 hp_291 => ?_)
                        rcases hp_291 with ⟨er_279, hp_291⟩ | ⟨er_279, hp_291⟩
                        · subst er_279
                          have f_292 : 0 ≤ (gI z 705).toInt ∧ (gI z 705).toInt ≤ 4 := ht.1 705
                          refine ⟨fun _ => ?_, fun hc => absurd hc (by decide)⟩
                          refine ⟨fun c_281 => ?_, fun c_281 => ?_⟩
                          · skip
                            have f_293 : 0 ≤ (gI z 1308).toInt ∧ (gI z 1308).toInt ≤ 16 := ht.1 1308
                            have i_294 := i_lt rfl (show (16 : Int32).toInt = 16 by decide) c_281
                            refine s_X1_add b1 b2 b3 b4 z _ ht hrx (by omega) (by omega) (by omega) (by omega) (by omega) (by omega) (fun r_282 z_283 tz_283 o_296 xz_283 hp_295 => ?_)
                            have oz_283 : Same [8, 1308] [14, 15, 16, 17, 18, 19, 20] z z_283 := (Same.rf (z := z)).tr o_296 (by decide) (by decide)
                            have f_297 : 0 ≤ (gI z_283 1308).toInt ∧ (gI z_283 1308).toInt ≤ 16 := tz_283.1 1308
                            refine s_X1_setNeeds r_282 b5 b6 b7 b8 z_283 _ tz_283 (by omega) (fun z_284 tz_284 o_299 hp_298 => ?_)
                            have oz_284 : Same [8, 1308] [14, 15, 16, 17, 18, 19, 20] z z_284 := oz_283.tr o_299 (by decide) (by decide)
                            have xz_284 : RX z_284 := RX_same xz_283 o_299 (by decide) (by decide) (by decide) (by decide) (by decide) (by decide)
                            refine s_X8_accept r_282 z_284 _ tz_284  (fun r_285 z_286 tz_286 o_301 hp_300 => ?_)
                            have oz_286 : Same [8, 1308] [14, 15, 16, 17, 18, 19, 20] z z_286 := oz_284.tr o_301 (by decide) (by decide)
                            have xz_286 : RX z_286 := RX_same xz_284 o_301 (by decide) (by decide) (by decide) (by decide) (by decide) (by decide)
                            exact hk r_285 z_286 tz_286 oz_286 xz_286 trivial
                          · skip
                            have f_302 : 0 ≤ (gI z 1308).toInt ∧ (gI z 1308).toInt ≤ 16 := ht.1 1308
                            have i_303 := i_nlt rfl (show (16 : Int32).toInt = 16 by decide) c_281
                            have g_304 : (-5 : Int32).toInt = -5 := by decide
                            refine s_X8_refuse ((-5 : Int32)) z _ ht  (fun r_287 z_288 tz_288 o_306 hp_305 => ?_)
                            have oz_288 : Same [8, 1308] [14, 15, 16, 17, 18, 19, 20] z z_288 := (Same.rf (z := z)).tr o_306 (by decide) (by decide)
                            have xz_288 : RX z_288 := RX_same hrx o_306 (by decide) (by decide) (by decide) (by decide) (by decide) (by decide)
                            exact hk r_287 z_288 tz_288 oz_288 xz_288 trivial
                        · subst er_279
                          have f_307 : 0 ≤ (gI z 705).toInt ∧ (gI z 705).toInt ≤ 4 := ht.1 705
                          refine ⟨fun hc => absurd hc (by decide), fun _ => ?_⟩
                          have g_308 : (-2 : Int32).toInt = -2 := by decide
                          refine s_X8_refuse ((-2 : Int32)) z _ ht  (fun r_289 z_290 tz_290 o_310 hp_309 => ?_)
                          have oz_290 : Same [8, 1308] [14, 15, 16, 17, 18, 19, 20] z z_290 := (Same.rf (z := z)).tr o_310 (by decide) (by decide)
                          have xz_290 : RX z_290 := RX_same hrx o_310 (by decide) (by decide) (by decide) (by decide) (by decide) (by decide)
                          exact hk r_289 z_290 tz_290 oz_290 xz_290 trivial
                      · skip
                        have i_311 := i_nle rfl (show (3 : Int32).toInt = 3 by decide) c_274
                        refine s_X8_isNeed b8 z _ ht  (fun r_275 hp_312 => ?_)
                        rcases hp_312 with ⟨er_275, hp_312⟩ | ⟨er_275, hp_312⟩
                        · subst er_275
                          refine ⟨fun _ => ?_, fun hc => absurd hc (by decide)⟩
                          refine hK_277  ?_
                          refine s_X0_has b1 z _ ht  (fun r_313 hp_325 => ?_)
                          rcases hp_325 with ⟨er_313, hp_325⟩ | ⟨er_313, hp_325⟩
                          · subst er_313
                            have f_326 : 0 ≤ (gI z 705).toInt ∧ (gI z 705).toInt ≤ 4 := ht.1 705
                            refine ⟨fun _ => ?_, fun hc => absurd hc (by decide)⟩
                            refine ⟨fun c_315 => ?_, fun c_315 => ?_⟩
                            · skip
                              have f_327 : 0 ≤ (gI z 1308).toInt ∧ (gI z 1308).toInt ≤ 16 := ht.1 1308
                              have i_328 := i_lt rfl (show (16 : Int32).toInt = 16 by decide) c_315
                              refine s_X1_add b1 b2 b3 b4 z _ ht hrx (by omega) (by omega) (by omega) (by omega) (by omega) (by omega) (fun r_316 z_317 tz_317 o_330 xz_317 hp_329 => ?_)
                              have oz_317 : Same [8, 1308] [14, 15, 16, 17, 18, 19, 20] z z_317 := (Same.rf (z := z)).tr o_330 (by decide) (by decide)
                              have f_331 : 0 ≤ (gI z_317 1308).toInt ∧ (gI z_317 1308).toInt ≤ 16 := tz_317.1 1308
                              refine s_X1_setNeeds r_316 b5 b6 b7 b8 z_317 _ tz_317 (by omega) (fun z_318 tz_318 o_333 hp_332 => ?_)
                              have oz_318 : Same [8, 1308] [14, 15, 16, 17, 18, 19, 20] z z_318 := oz_317.tr o_333 (by decide) (by decide)
                              have xz_318 : RX z_318 := RX_same xz_317 o_333 (by decide) (by decide) (by decide) (by decide) (by decide) (by decide)
                              refine s_X8_accept r_316 z_318 _ tz_318  (fun r_319 z_320 tz_320 o_335 hp_334 => ?_)
                              have oz_320 : Same [8, 1308] [14, 15, 16, 17, 18, 19, 20] z z_320 := oz_318.tr o_335 (by decide) (by decide)
                              have xz_320 : RX z_320 := RX_same xz_318 o_335 (by decide) (by decide) (by decide) (by decide) (by decide) (by decide)
                              exact hk r_319 z_320 tz_320 oz_320 xz_320 trivial
                            · skip
                              have f_336 : 0 ≤ (gI z 1308).toInt ∧ (gI z 1308).toInt ≤ 16 := ht.1 1308
                              have i_337 := i_nlt rfl (show (16 : Int32).toInt = 16 by decide) c_315
                              have g_338 : (-5 : Int32).toInt = -5 := by decide
                              refine s_X8_refuse ((-5 : Int32)) z _ ht  (fun r_321 z_322 tz_322 o_340 hp_339 => ?_)
                              have oz_322 : Same [8, 1308] [14, 15, 16, 17, 18, 19, 20] z z_322 := (Same.rf (z := z)).tr o_340 (by decide) (by decide)
                              have xz_322 : RX z_322 := RX_same hrx o_340 (by decide) (by decide) (by decide) (by decide) (by decide) (by decide)
                              exact hk r_321 z_322 tz_322 oz_322 xz_322 trivial
                          · subst er_313
                            have f_341 : 0 ≤ (gI z 705).toInt ∧ (gI z 705).toInt ≤ 4 := ht.1 705
                            refine ⟨fun hc => absurd hc (by decide), fun _ => ?_⟩
                            have g_342 : (-2 : Int32).toInt = -2 := by decide
                            refine s_X8_refuse ((-2 : Int32)) z _ ht  (fun r_323 z_324 tz_324 o_344 hp_343 => ?_)
                            have oz_324 : Same [8, 1308] [14, 15, 16, 17, 18, 19, 20] z z_324 := (Same.rf (z := z)).tr o_344 (by decide) (by decide)
                            have xz_324 : RX z_324 := RX_same hrx o_344 (by decide) (by decide) (by decide) (by decide) (by decide) (by decide)
                            exact hk r_323 z_324 tz_324 oz_324 xz_324 trivial
                        · subst er_275
                          refine ⟨fun hc => absurd hc (by decide), fun _ => ?_⟩
                          refine hK_27  ?_
                          have g_347 : (-1 : Int32).toInt = -1 := by decide
                          refine s_X8_refuse ((-1 : Int32)) z _ ht  (fun r_345 z_346 tz_346 o_349 hp_348 => ?_)
                          have oz_346 : Same [8, 1308] [14, 15, 16, 17, 18, 19, 20] z z_346 := (Same.rf (z := z)).tr o_349 (by decide) (by decide)
                          have xz_346 : RX z_346 := RX_same hrx o_349 (by decide) (by decide) (by decide) (by decide) (by decide) (by decide)
                          exact hk r_345 z_346 tz_346 oz_346 xz_346 trivial
                    · skip
                      have i_350 := i_nle rfl (show (2 : Int32).toInt = 2 by decide) c_256
                      refine s_X8_isNeed b7 z _ ht  (fun r_257 hp_351 => ?_)
                      rcases hp_351 with ⟨er_257, hp_351⟩ | ⟨er_257, hp_351⟩
                      · subst er_257
                        refine ⟨fun hc => absurd hc (by decide), fun _ => ?_⟩
                        refine hK_259  ?_
                        intro K_352 hK_368
                        refine ⟨fun c_365 => ?_, fun c_365 => ?_⟩
                        · skip
                          have i_369 := i_le rfl (show (3 : Int32).toInt = 3 by decide) c_365
                          refine hK_368  ?_
                          refine s_X0_has b1 z _ ht  (fun r_370 hp_382 => ?_)
                          rcases hp_382 with ⟨er_370, hp_382⟩ | ⟨er_370, hp_382⟩
                          · subst er_370
                            have f_383 : 0 ≤ (gI z 705).toInt ∧ (gI z 705).toInt ≤ 4 := ht.1 705
                            refine ⟨fun _ => ?_, fun hc => absurd hc (by decide)⟩
                            refine ⟨fun c_372 => ?_, fun c_372 => ?_⟩
                            · skip
                              have f_384 : 0 ≤ (gI z 1308).toInt ∧ (gI z 1308).toInt ≤ 16 := ht.1 1308
                              have i_385 := i_lt rfl (show (16 : Int32).toInt = 16 by decide) c_372
                              refine s_X1_add b1 b2 b3 b4 z _ ht hrx (by omega) (by omega) (by omega) (by omega) (by omega) (by omega) (fun r_373 z_374 tz_374 o_387 xz_374 hp_386 => ?_)
                              have oz_374 : Same [8, 1308] [14, 15, 16, 17, 18, 19, 20] z z_374 := (Same.rf (z := z)).tr o_387 (by decide) (by decide)
                              have f_388 : 0 ≤ (gI z_374 1308).toInt ∧ (gI z_374 1308).toInt ≤ 16 := tz_374.1 1308
                              refine s_X1_setNeeds r_373 b5 b6 b7 b8 z_374 _ tz_374 (by omega) (fun z_375 tz_375 o_390 hp_389 => ?_)
                              have oz_375 : Same [8, 1308] [14, 15, 16, 17, 18, 19, 20] z z_375 := oz_374.tr o_390 (by decide) (by decide)
                              have xz_375 : RX z_375 := RX_same xz_374 o_390 (by decide) (by decide) (by decide) (by decide) (by decide) (by decide)
                              refine s_X8_accept r_373 z_375 _ tz_375  (fun r_376 z_377 tz_377 o_392 hp_391 => ?_)
                              have oz_377 : Same [8, 1308] [14, 15, 16, 17, 18, 19, 20] z z_377 := oz_375.tr o_392 (by decide) (by decide)
                              have xz_377 : RX z_377 := RX_same xz_375 o_392 (by decide) (by decide) (by decide) (by decide) (by decide) (by decide)
                              exact hk r_376 z_377 tz_377 oz_377 xz_377 trivial
                            · skip
                              have f_393 : 0 ≤ (gI z 1308).toInt ∧ (gI z 1308).toInt ≤ 16 := ht.1 1308
                              have i_394 := i_nlt rfl (show (16 : Int32).toInt = 16 by decide) c_372
                              have g_395 : (-5 : Int32).toInt = -5 := by decide
                              refine s_X8_refuse ((-5 : Int32)) z _ ht  (fun r_378 z_379 tz_379 o_397 hp_396 => ?_)
                              have oz_379 : Same [8, 1308] [14, 15, 16, 17, 18, 19, 20] z z_379 := (Same.rf (z := z)).tr o_397 (by decide) (by decide)
                              have xz_379 : RX z_379 := RX_same hrx o_397 (by decide) (by decide) (by decide) (by decide) (by decide) (by decide)
                              exact hk r_378 z_379 tz_379 oz_379 xz_379 trivial
                          · subst er_370
                            have f_398 : 0 ≤ (gI z 705).toInt ∧ (gI z 705).toInt ≤ 4 := ht.1 705
                            refine ⟨fun hc => absurd hc (by decide), fun _ => ?_⟩
                            have g_399 : (-2 : Int32).toInt = -2 := by decide
                            refine s_X8_refuse ((-2 : Int32)) z _ ht  (fun r_380 z_381 tz_381 o_401 hp_400 => ?_)
                            have oz_381 : Same [8, 1308] [14, 15, 16, 17, 18, 19, 20] z z_381 := (Same.rf (z := z)).tr o_401 (by decide) (by decide)
                            have xz_381 : RX z_381 := RX_same hrx o_401 (by decide) (by decide) (by decide) (by decide) (by decide) (by decide)
                            exact hk r_380 z_381 tz_381 oz_381 xz_381 trivial
                        · skip
                          have i_402 := i_nle rfl (show (3 : Int32).toInt = 3 by decide) c_365
                          refine s_X8_isNeed b8 z _ ht  (fun r_366 hp_403 => ?_)
                          rcases hp_403 with ⟨er_366, hp_403⟩ | ⟨er_366, hp_403⟩
                          · subst er_366
                            refine ⟨fun _ => ?_, fun hc => absurd hc (by decide)⟩
                            refine hK_368  ?_
                            refine s_X0_has b1 z _ ht  (fun r_404 hp_416 => ?_)
                            rcases hp_416 with ⟨er_404, hp_416⟩ | ⟨er_404, hp_416⟩
                            · subst er_404
                              have f_417 : 0 ≤ (gI z 705).toInt ∧ (gI z 705).toInt ≤ 4 := ht.1 705
                              refine ⟨fun _ => ?_, fun hc => absurd hc (by decide)⟩
                              refine ⟨fun c_406 => ?_, fun c_406 => ?_⟩
                              · skip
                                have f_418 : 0 ≤ (gI z 1308).toInt ∧ (gI z 1308).toInt ≤ 16 := ht.1 1308
                                have i_419 := i_lt rfl (show (16 : Int32).toInt = 16 by decide) c_406
                                refine s_X1_add b1 b2 b3 b4 z _ ht hrx (by omega) (by omega) (by omega) (by omega) (by omega) (by omega) (fun r_407 z_408 tz_408 o_421 xz_408 hp_420 => ?_)
                                have oz_408 : Same [8, 1308] [14, 15, 16, 17, 18, 19, 20] z z_408 := (Same.rf (z := z)).tr o_421 (by decide) (by decide)
                                have f_422 : 0 ≤ (gI z_408 1308).toInt ∧ (gI z_408 1308).toInt ≤ 16 := tz_408.1 1308
                                refine s_X1_setNeeds r_407 b5 b6 b7 b8 z_408 _ tz_408 (by omega) (fun z_409 tz_409 o_424 hp_423 => ?_)
                                have oz_409 : Same [8, 1308] [14, 15, 16, 17, 18, 19, 20] z z_409 := oz_408.tr o_424 (by decide) (by decide)
                                have xz_409 : RX z_409 := RX_same xz_408 o_424 (by decide) (by decide) (by decide) (by decide) (by decide) (by decide)
                                refine s_X8_accept r_407 z_409 _ tz_409  (fun r_410 z_411 tz_411 o_426 hp_425 => ?_)
                                have oz_411 : Same [8, 1308] [14, 15, 16, 17, 18, 19, 20] z z_411 := oz_409.tr o_426 (by decide) (by decide)
                                have xz_411 : RX z_411 := RX_same xz_409 o_426 (by decide) (by decide) (by decide) (by decide) (by decide) (by decide)
                                exact hk r_410 z_411 tz_411 oz_411 xz_411 trivial
                              · skip
                                have f_427 : 0 ≤ (gI z 1308).toInt ∧ (gI z 1308).toInt ≤ 16 := ht.1 1308
                                have i_428 := i_nlt rfl (show (16 : Int32).toInt = 16 by decide) c_406
                                have g_429 : (-5 : Int32).toInt = -5 := by decide
                                refine s_X8_refuse ((-5 : Int32)) z _ ht  (fun r_412 z_413 tz_413 o_431 hp_430 => ?_)
                                have oz_413 : Same [8, 1308] [14, 15, 16, 17, 18, 19, 20] z z_413 := (Same.rf (z := z)).tr o_431 (by decide) (by decide)
                                have xz_413 : RX z_413 := RX_same hrx o_431 (by decide) (by decide) (by decide) (by decide) (by decide) (by decide)
                                exact hk r_412 z_413 tz_413 oz_413 xz_413 trivial
                            · subst er_404
                              have f_432 : 0 ≤ (gI z 705).toInt ∧ (gI z 705).toInt ≤ 4 := ht.1 705
                              refine ⟨fun hc => absurd hc (by decide), fun _ => ?_⟩
                              have g_433 : (-2 : Int32).toInt = -2 := by decide
                              refine s_X8_refuse ((-2 : Int32)) z _ ht  (fun r_414 z_415 tz_415 o_435 hp_434 => ?_)
                              have oz_415 : Same [8, 1308] [14, 15, 16, 17, 18, 19, 20] z z_415 := (Same.rf (z := z)).tr o_435 (by decide) (by decide)
                              have xz_415 : RX z_415 := RX_same hrx o_435 (by decide) (by decide) (by decide) (by decide) (by decide) (by decide)
                              exact hk r_414 z_415 tz_415 oz_415 xz_415 trivial
                          · subst er_366
                            refine ⟨fun hc => absurd hc (by decide), fun _ => ?_⟩
                            refine hK_27  ?_
                            have g_438 : (-1 : Int32).toInt = -1 := by decide
                            refine s_X8_refuse ((-1 : Int32)) z _ ht  (fun r_436 z_437 tz_437 o_440 hp_439 => ?_)
                            have oz_437 : Same [8, 1308] [14, 15, 16, 17, 18, 19, 20] z z_437 := (Same.rf (z := z)).tr o_440 (by decide) (by decide)
                            have xz_437 : RX z_437 := RX_same hrx o_440 (by decide) (by decide) (by decide) (by decide) (by decide) (by decide)
                            exact hk r_436 z_437 tz_437 oz_437 xz_437 trivial
                      · subst er_257
                        refine ⟨fun _ => ?_, fun hc => absurd (show ((0 : Int32)) = ((0 : Int32)) by decide) hc⟩
                        refine hK_27  ?_
                        have g_443 : (-1 : Int32).toInt = -1 := by decide
                        refine s_X8_refuse ((-1 : Int32)) z _ ht  (fun r_441 z_442 tz_442 o_445 hp_444 => ?_)
                        have oz_442 : Same [8, 1308] [14, 15, 16, 17, 18, 19, 20] z z_442 := (Same.rf (z := z)).tr o_445 (by decide) (by decide)
                        have xz_442 : RX z_442 := RX_same hrx o_445 (by decide) (by decide) (by decide) (by decide) (by decide) (by decide)
                        exact hk r_441 z_442 tz_442 oz_442 xz_442 trivial
                  · subst er47
                    refine ⟨fun _ => ?_, fun hc => absurd (show ((0 : Int32)) = ((0 : Int32)) by decide) hc⟩
                    refine hK_27  ?_
                    have g_448 : (-1 : Int32).toInt = -1 := by decide
                    refine s_X8_refuse ((-1 : Int32)) z _ ht  (fun r_446 z_447 tz_447 o_450 hp_449 => ?_)
                    have oz_447 : Same [8, 1308] [14, 15, 16, 17, 18, 19, 20] z z_447 := (Same.rf (z := z)).tr o_450 (by decide) (by decide)
                    have xz_447 : RX z_447 := RX_same hrx o_450 (by decide) (by decide) (by decide) (by decide) (by decide) (by decide)
                    exact hk r_446 z_447 tz_447 oz_447 xz_447 trivial
              · subst er15
                intro K16 hK_451
                refine ⟨fun _ => ?_, fun hc => absurd (show ((0 : Int32)) = ((0 : Int32)) by decide) hc⟩
                refine hK_451  ?_
                have g_454 : (-1 : Int32).toInt = -1 := by decide
                refine s_X8_refuse ((-1 : Int32)) z _ ht  (fun r_452 z_453 tz_453 o_456 hp_455 => ?_)
                have oz_453 : Same [8, 1308] [14, 15, 16, 17, 18, 19, 20] z z_453 := (Same.rf (z := z)).tr o_456 (by decide) (by decide)
                have xz_453 : RX z_453 := RX_same hrx o_456 (by decide) (by decide) (by decide) (by decide) (by decide) (by decide)
                exact hk r_452 z_453 tz_453 oz_453 xz_453 trivial
            · skip
              have i_457 := i_nle rfl (show (4 : Int32).toInt = 4 by decide) c13
              refine hK_2  ?_
              have g_460 : (-1 : Int32).toInt = -1 := by decide
              refine s_X8_refuse ((-1 : Int32)) z _ ht  (fun r_458 z_459 tz_459 o_462 hp_461 => ?_)
              have oz_459 : Same [8, 1308] [14, 15, 16, 17, 18, 19, 20] z z_459 := (Same.rf (z := z)).tr o_462 (by decide) (by decide)
              have xz_459 : RX z_459 := RX_same hrx o_462 (by decide) (by decide) (by decide) (by decide) (by decide) (by decide)
              exact hk r_458 z_459 tz_459 oz_459 xz_459 trivial
    · subst er8
      refine ⟨fun _ => ?_, fun hc => absurd (show ((0 : Int32)) = ((0 : Int32)) by decide) hc⟩
      refine hK_2  ?_
      have g_465 : (-1 : Int32).toInt = -1 := by decide
      refine s_X8_refuse ((-1 : Int32)) z _ ht  (fun r_463 z_464 tz_464 o_467 hp_466 => ?_)
      have oz_464 : Same [8, 1308] [14, 15, 16, 17, 18, 19, 20] z z_464 := (Same.rf (z := z)).tr o_467 (by decide) (by decide)
      have xz_464 : RX z_464 := RX_same hrx o_467 (by decide) (by decide) (by decide) (by decide) (by decide) (by decide)
      exact hk r_463 z_464 tz_464 oz_464 xz_464 trivial
  · subst er2
    intro K3 hK_468
    refine ⟨fun _ => ?_, fun hc => absurd (show ((0 : Int32)) = ((0 : Int32)) by decide) hc⟩
    refine hK_468  ?_
    have g_471 : (-1 : Int32).toInt = -1 := by decide
    refine s_X8_refuse ((-1 : Int32)) z _ ht  (fun r_469 z_470 tz_470 o_473 hp_472 => ?_)
    have oz_470 : Same [8, 1308] [14, 15, 16, 17, 18, 19, 20] z z_470 := (Same.rf (z := z)).tr o_473 (by decide) (by decide)
    have xz_470 : RX z_470 := RX_same hrx o_473 (by decide) (by decide) (by decide) (by decide) (by decide) (by decide)
    exact hk r_469 z_470 tz_470 oz_470 xz_470 trivial

set_option maxHeartbeats 2000000 in
theorem s_X1_has (b1 : Int32) (z : St) (P : Int32 → Prop) (ht : TX z)  (hk : ∀ r : Int32, (r = 1 ∧ (0 ≤ b1.toInt ∧ b1.toInt < (gI z 1308).toInt)) ∨ (r = 0 ∧ (b1.toInt < 0 ∨ (gI z 1308).toInt ≤ b1.toInt)) → P r) : wp_X1_has b1 z P := by
  unfold wp_X1_has
  refine ⟨fun c1 => ?_, fun c1 => ?_⟩
  · skip
    have i_1 := i_lt rfl (show (0 : Int32).toInt = 0 by decide) c1
    have g_2 : (0 : Int32).toInt = 0 := by decide
    have f_3 : 0 ≤ (gI z 1308).toInt ∧ (gI z 1308).toInt ≤ 16 := ht.1 1308
    exact hk ((0 : Int32)) (Or.inr ⟨rfl, (by omega)⟩)
  · skip
    have i_4 := i_nlt rfl (show (0 : Int32).toInt = 0 by decide) c1
    refine ⟨fun c2 => ?_, fun c2 => ?_⟩
    · skip
      have f_5 : 0 ≤ (gI z 1308).toInt ∧ (gI z 1308).toInt ≤ 16 := ht.1 1308
      have i_6 := i_le rfl rfl c2
      have g_7 : (0 : Int32).toInt = 0 := by decide
      exact hk ((0 : Int32)) (Or.inr ⟨rfl, (by omega)⟩)
    · skip
      have f_8 : 0 ≤ (gI z 1308).toInt ∧ (gI z 1308).toInt ≤ 16 := ht.1 1308
      have i_9 := i_nle rfl rfl c2
      have g_10 : (1 : Int32).toInt = 1 := by decide
      exact hk ((1 : Int32)) (Or.inl ⟨rfl, (by omega)⟩)

set_option maxHeartbeats 2000000 in
theorem s_X8_of (b1 : Int32) (b2 : Int32) (z : St) (P : Int32 → Prop) (ht : TX z)  (hk : ∀ r : Int32, True → P r) : wp_X8_of b1 b2 z P := by
  unfold wp_X8_of
  refine s_X1_has b1 z _ ht  (fun r2 hp_1 => ?_)
  rcases hp_1 with ⟨er2, hp_1⟩ | ⟨er2, hp_1⟩
  · subst er2
    have f_2 : 0 ≤ (gI z 1308).toInt ∧ (gI z 1308).toInt ≤ 16 := ht.1 1308
    refine ⟨fun _ => ?_, fun hc => absurd hc (by decide)⟩
    refine ⟨fun c4_0 => ?_, fun c4_1 => ?_, fun c4_2 => ?_, fun c4_3 => ?_, fun c4_4 => ?_, fun c4_5 => ?_, fun c4_d => ?_⟩
    · skip
      refine ⟨vin rfl (by omega) (by omega), ?_⟩
      have f_3 : 0 ≤ (gF z 14 b1.toNatClampNeg).toInt ∧ (gF z 14 b1.toNatClampNeg).toInt ≤ 3 := ht.2 14 _
      exact hk (gF z 14 b1.toNatClampNeg) trivial
    · skip
      refine ⟨vin rfl (by omega) (by omega), ?_⟩
      have f_4 : 0 ≤ (gF z 15 b1.toNatClampNeg).toInt ∧ (gF z 15 b1.toNatClampNeg).toInt ≤ 167 := ht.2 15 _
      exact hk (gF z 15 b1.toNatClampNeg) trivial
    · skip
      refine ⟨vin rfl (by omega) (by omega), ?_⟩
      have f_5 : 0 ≤ (gF z 16 b1.toNatClampNeg).toInt ∧ (gF z 16 b1.toNatClampNeg).toInt ≤ 167 := ht.2 16 _
      exact hk (gF z 16 b1.toNatClampNeg) trivial
    · skip
      refine ⟨vin rfl (by omega) (by omega), ?_⟩
      have f_6 : 0 ≤ (gF z 17 b1.toNatClampNeg).toInt ∧ (gF z 17 b1.toNatClampNeg).toInt ≤ 4 := ht.2 17 _
      exact hk (gF z 17 b1.toNatClampNeg) trivial
    · skip
      refine ⟨vin rfl (by omega) (by omega), ?_⟩
      have f_7 : 0 ≤ (gF z 19 b1.toNatClampNeg).toInt ∧ (gF z 19 b1.toNatClampNeg).toInt ≤ 2 := ht.2 19 _
      exact hk (gF z 19 b1.toNatClampNeg) trivial
    · skip
      refine ⟨vin rfl (by omega) (by omega), ?_⟩
      have f_8 : -1 ≤ (gF z 20 b1.toNatClampNeg).toInt ∧ (gF z 20 b1.toNatClampNeg).toInt ≤ 167 := ht.2 20 _
      exact hk (gF z 20 b1.toNatClampNeg) trivial
    · skip
      refine ⟨fun c5 => ?_, fun c5 => ?_⟩
      · skip
        have i_9 := i_lt rfl (show (10 : Int32).toInt = 10 by decide) c5
        have g_10 : (-1 : Int32).toInt = -1 := by decide
        exact hk ((-1 : Int32)) trivial
      · skip
        have i_11 := i_nlt rfl (show (10 : Int32).toInt = 10 by decide) c5
        refine ⟨vin rfl (by omega) (by omega), ?_⟩
        refine ⟨fun c6 => ?_, fun c6 => ?_⟩
        · skip
          have f_12 : 0 ≤ (gF z 17 b1.toNatClampNeg).toInt ∧ (gF z 17 b1.toNatClampNeg).toInt ≤ 4 := ht.2 17 _
          have i_13 := i_le (a_add (show (10 : Int32).toInt = 10 by decide) rfl (by omega) (by omega)) rfl c6
          have g_14 : (-1 : Int32).toInt = -1 := by decide
          exact hk ((-1 : Int32)) trivial
        · skip
          have f_15 : 0 ≤ (gF z 17 b1.toNatClampNeg).toInt ∧ (gF z 17 b1.toNatClampNeg).toInt ≤ 4 := ht.2 17 _
          have i_16 := i_nle (a_add (show (10 : Int32).toInt = 10 by decide) rfl (by omega) (by omega)) rfl c6
          refine ⟨vin (a_sub (a_add (a_mul rfl (show (4 : Int32).toInt = 4 by decide) (by omega) (by omega)) rfl (by omega) (by omega)) (show (10 : Int32).toInt = 10 by decide) (by omega) (by omega)) (by omega) (by omega), ?_⟩
          exact hk (gF z 18 (((b1 * ((4 : Int32))) + b2) - ((10 : Int32))).toNatClampNeg) trivial
  · subst er2
    have f_17 : 0 ≤ (gI z 1308).toInt ∧ (gI z 1308).toInt ≤ 16 := ht.1 1308
    refine ⟨fun hc => absurd hc (by decide), fun _ => ?_⟩
    have g_18 : (-1 : Int32).toInt = -1 := by decide
    exact hk ((-1 : Int32)) trivial

set_option maxHeartbeats 2000000 in
theorem s_X0_draw (b1 : Int32) (b2 : Int32) (b3 : Int32) (z : St) (P : St → Prop) (ht : TX z) (h0 : 0 ≤ b1.toInt ∧ b1.toInt ≤ 3) (h1 : 0 ≤ b2.toInt ∧ b2.toInt ≤ 167) (hk : ∀ (z2 : St), TX z2 → Same [] [10, 12] z z2 → (True) → P z2) : wp_X0_draw b1 b2 b3 z P := by
  unfold wp_X0_draw
  refine ⟨vin (a_add (a_mul rfl (show (168 : Int32).toInt = 168 by decide) (by omega) (by omega)) rfl (by omega) (by omega)) (by omega) (by omega), ?_⟩
  refine ⟨vin (a_add (a_mul rfl (show (168 : Int32).toInt = 168 by decide) (by omega) (by omega)) rfl (by omega) (by omega)) (by omega) (by omega), ?_⟩
  intro z1 ez1
  have tz1 : TX z1 := by rw [ez1]; exact Ty_wR ht trivial
  have oz1 : Same [] [10, 12] z z1 := (Same.rf (z := z)).r (by decide) ez1
  refine ⟨vin rfl (by omega) (by omega), ?_⟩
  refine ⟨vin rfl (by omega) (by omega), ?_⟩
  intro z2 ez2
  have tz2 : TX z2 := by rw [ez2]; exact Ty_wR tz1 trivial
  have oz2 : Same [] [10, 12] z z2 := oz1.r (by decide) ez2
  exact hk z2 tz2 oz2 trivial

set_option maxHeartbeats 2000000 in
theorem s_X1_draw (b1 : Int32) (b2 : Int32) (b3 : Int32) (z : St) (P : St → Prop) (ht : TX z) (h0 : 0 ≤ b1.toInt ∧ b1.toInt ≤ 15) (h1 : 0 ≤ b2.toInt ∧ b2.toInt ≤ 167) (h2 : b2.toInt + (gF z 17 b1.toNatClampNeg).toInt ≤ 168) (hk : ∀ (z2 : St), TX z2 → Same [] [10, 12] z z2 → (True) → P z2) : wp_X1_draw b1 b2 b3 z P := by
  unfold wp_X1_draw
  intro K2 hK_1
  have L_2 : ∀ (n : Nat) (v1 : Int32) (z3 : St), TX z3 → Same [] [10, 12] z z3 → (0 ≤ v1.toInt) → (v1.toInt ≤ 4) → (4 - v1.toInt).toNat < n → K2 v1 z3 := by
    intro n
    induction n with
    | zero => intro v1 z3 tz3 ocz3 w_3 w_4 m_6; omega
    | succ n ih_5 =>
      intro v1 z3 tz3 ocz3 w_3 w_4 m_6
      refine hK_1 v1 z3 ?_
      refine ⟨vin rfl (by omega) (by omega), ?_⟩
      refine ⟨fun c4 => ?_, fun c4 => ?_⟩
      · skip
        have f_7 : 0 ≤ (gF z3 17 b1.toNatClampNeg).toInt ∧ (gF z3 17 b1.toNatClampNeg).toInt ≤ 4 := tz3.2 17 _
        have q_8 := (ocz3.ff 17 b1.toNatClampNeg (by decide))
        have f_9 : 0 ≤ (gF z 17 b1.toNatClampNeg).toInt ∧ (gF z 17 b1.toNatClampNeg).toInt ≤ 4 := ht.2 17 _
        have i_10 := i_le rfl rfl c4
        exact hk z3 tz3 ocz3 trivial
      · skip
        have f_11 : 0 ≤ (gF z3 17 b1.toNatClampNeg).toInt ∧ (gF z3 17 b1.toNatClampNeg).toInt ≤ 4 := tz3.2 17 _
        have q_12 := (ocz3.ff 17 b1.toNatClampNeg (by decide))
        have f_13 : 0 ≤ (gF z 17 b1.toNatClampNeg).toInt ∧ (gF z 17 b1.toNatClampNeg).toInt ≤ 4 := ht.2 17 _
        have i_14 := i_nle rfl rfl c4
        refine ⟨vin rfl (by omega) (by omega), ?_⟩
        refine ⟨vin (a_add (a_mul rfl (show (4 : Int32).toInt = 4 by decide) (by omega) (by omega)) rfl (by omega) (by omega)) (by omega) (by omega), ?_⟩
        have f_15 : 0 ≤ (gF z3 14 b1.toNatClampNeg).toInt ∧ (gF z3 14 b1.toNatClampNeg).toInt ≤ 3 := tz3.2 14 _
        have q_16 := (ocz3.ff 14 b1.toNatClampNeg (by decide))
        have f_17 : 0 ≤ (gF z 14 b1.toNatClampNeg).toInt ∧ (gF z 14 b1.toNatClampNeg).toInt ≤ 3 := ht.2 14 _
        have g_18 : (b2 + v1).toInt = (b2.toInt + v1.toInt) := (a_add rfl rfl (by omega) (by omega))
        have q_19 := (ocz3.ff 18 ((b1 * (4 : Int32)) + v1).toNatClampNeg (by decide))
        refine s_X0_draw (gF z3 14 b1.toNatClampNeg) (b2 + v1) (b3 * (gF z3 18 ((b1 * ((4 : Int32))) + v1).toNatClampNeg)) z3 _ tz3 (by omega) (by omega) (fun z5 tz5 o_21 hp_20 => ?_)
        have oz5 : Same [] [10, 12] z z5 := ocz3.tr o_21 (by decide) (by decide)
        intro x7 ex7
        have ix7 : x7.toInt = (v1.toInt + (1)) := by rw [ex7]; exact (a_add rfl (show (1 : Int32).toInt = 1 by decide) (by omega) (by omega))
        exact ih_5 x7 z5 tz5 oz5 (by omega) (by omega) (by omega)
  have g_22 : (0 : Int32).toInt = 0 := by decide
  exact L_2 ((4 - (0 : Int32).toInt).toNat + 1) ((0 : Int32)) z ht (Same.rf (z := z)) (by omega) (by omega) (by omega)

set_option maxHeartbeats 2000000 in
theorem s_X1_reopen (b1 : Int32) (z : St) (P : St → Prop) (ht : TX z) (hrx : RX z) (h0 : 0 ≤ b1.toInt ∧ b1.toInt ≤ 15) (hk : ∀ (z2 : St), TX z2 → Same [] [10, 12, 19, 20] z z2 → RX z2 → (True) → P z2) : wp_X1_reopen b1 z P := by
  unfold wp_X1_reopen
  refine ⟨vin rfl (by omega) (by omega), ?_⟩
  refine ⟨fun c1 => ?_, fun c1 => ?_⟩
  · skip
    have f_1 : 0 ≤ (gF z 19 b1.toNatClampNeg).toInt ∧ (gF z 19 b1.toNatClampNeg).toInt ≤ 2 := ht.2 19 _
    have u_2 := hrx.1 b1.toNatClampNeg
    have u_3 := hrx.2.2.2 b1.toNatClampNeg
    have cl_4 := clampI (x := b1) (n := 16) (vin rfl (by omega) (by omega))
    have f_5 : 0 ≤ (gF z 17 b1.toNatClampNeg).toInt ∧ (gF z 17 b1.toNatClampNeg).toInt ≤ 4 := ht.2 17 _
    have f_6 : -1 ≤ (gF z 20 b1.toNatClampNeg).toInt ∧ (gF z 20 b1.toNatClampNeg).toInt ≤ 167 := ht.2 20 _
    have i_7 := i_ne rfl (show (1 : Int32).toInt = 1 by decide) c1
    exact hk z ht (Same.rf (z := z)) hrx trivial
  · skip
    have f_8 : 0 ≤ (gF z 19 b1.toNatClampNeg).toInt ∧ (gF z 19 b1.toNatClampNeg).toInt ≤ 2 := ht.2 19 _
    have u_9 := hrx.1 b1.toNatClampNeg
    have u_10 := hrx.2.2.2 b1.toNatClampNeg
    have cl_11 := clampI (x := b1) (n := 16) (vin rfl (by omega) (by omega))
    have f_12 : 0 ≤ (gF z 17 b1.toNatClampNeg).toInt ∧ (gF z 17 b1.toNatClampNeg).toInt ≤ 4 := ht.2 17 _
    have f_13 : -1 ≤ (gF z 20 b1.toNatClampNeg).toInt ∧ (gF z 20 b1.toNatClampNeg).toInt ≤ 167 := ht.2 20 _
    have i_14 := i_eq rfl (show (1 : Int32).toInt = 1 by decide) c1
    refine ⟨vin rfl (by omega) (by omega), ?_⟩
    have g_15 : (-1 : Int32).toInt = -1 := by decide
    refine s_X1_draw b1 (gF z 20 b1.toNatClampNeg) ((-1 : Int32)) z _ ht (by omega) (by omega) (by omega) (fun z2 tz2 o_17 hp_16 => ?_)
    have oz2 : Same [] [10, 12, 19, 20] z z2 := (Same.rf (z := z)).tr o_17 (by decide) (by decide)
    have xz2 : RX z2 := RX_same hrx o_17 (by decide) (by decide) (by decide) (by decide) (by decide) (by decide)
    refine ⟨vin rfl (by omega) (by omega), ?_⟩
    intro z4 ez4
    have tz4 : TX z4 := by rw [ez4]; exact Ty_wR tz2 (show 0 ≤ (0 : Int32).toInt ∧ (0 : Int32).toInt ≤ 2 from by rw [(show (0 : Int32).toInt = 0 by decide)]; omega)
    have oz4 : Same [] [10, 12, 19, 20] z z4 := oz2.r (by decide) ez4
    refine ⟨vin rfl (by omega) (by omega), ?_⟩
    intro z5 ez5
    have tz5 : TX z5 := by rw [ez5]; exact Ty_wR tz4 (show -1 ≤ (-1 : Int32).toInt ∧ (-1 : Int32).toInt ≤ 167 from by rw [(show (-1 : Int32).toInt = -1 by decide)]; omega)
    have oz5 : Same [] [10, 12, 19, 20] z z5 := oz4.r (by decide) ez5
    have xz5 : RX z5 := by rw [ez5, ez4]; exact RX_open xz2
    exact hk z5 tz5 oz5 xz5 trivial

set_option maxHeartbeats 2000000 in
theorem s_X5_isBefore_c34 (b1 : Int32) (b2 : Int32) (z : St) (P : Int32 → Prop) (ht : TX z) (h0 : 0 ≤ b1.toInt ∧ b1.toInt ≤ 15) (hk : ∀ r : Int32, (r = 1 ∧ (True)) ∨ (r = 0 ∧ (True)) → P r) : wp_X5_isBefore_c34 b1 b2 z P := by
  unfold wp_X5_isBefore_c34
  refine ⟨vin rfl (by omega) (by omega), ?_⟩
  refine ⟨fun c1 => ?_, fun c1 => ?_⟩
  · skip
    have i_1 := i_eq rfl (show (0 : Int32).toInt = 0 by decide) c1
    have g_2 : (0 : Int32).toInt = 0 := by decide
    exact hk ((0 : Int32)) (Or.inr ⟨rfl, trivial⟩)
  · skip
    have i_3 := i_ne rfl (show (0 : Int32).toInt = 0 by decide) c1
    have g_4 : (1 : Int32).toInt = 1 := by decide
    exact hk ((1 : Int32)) (Or.inl ⟨rfl, trivial⟩)

set_option maxHeartbeats 2000000 in
theorem s_X2_isInTurn (b1 : Int32) (b2 : Int32) (z : St) (P : Int32 → Prop) (ht : TX z) (h0 : 0 ≤ b1.toInt ∧ b1.toInt ≤ 15) (hk : ∀ r : Int32, (r = 1 ∧ (True)) ∨ (r = 0 ∧ (True)) → P r) : wp_X2_isInTurn b1 b2 z P := by
  unfold wp_X2_isInTurn
  intro K2 hK_1
  have L_2 : ∀ (n : Nat) (v1 : Int32), (0 ≤ v1.toInt) → (v1.toInt ≤ 16) → (16 - v1.toInt).toNat < n → K2 v1 := by
    intro n
    induction n with
    | zero => intro v1 w_3 w_4 m_6; omega
    | succ n ih_5 =>
      intro v1 w_3 w_4 m_6
      refine hK_1 v1 ?_
      refine ⟨fun c3 => ?_, fun c3 => ?_⟩
      · skip
        have f_7 : 0 ≤ (gI z 1308).toInt ∧ (gI z 1308).toInt ≤ 16 := ht.1 1308
        have i_8 := i_le rfl rfl c3
        have g_9 : (1 : Int32).toInt = 1 := by decide
        exact hk ((1 : Int32)) (Or.inl ⟨rfl, trivial⟩)
      · skip
        have f_10 : 0 ≤ (gI z 1308).toInt ∧ (gI z 1308).toInt ≤ 16 := ht.1 1308
        have i_11 := i_nle rfl rfl c3
        refine ⟨vin rfl (by omega) (by omega), ?_⟩
        intro K4 hK_12
        refine ⟨fun c6 => ?_, fun c6 => ?_⟩
        · skip
          have f_13 : 0 ≤ (gF z 19 v1.toNatClampNeg).toInt ∧ (gF z 19 v1.toNatClampNeg).toInt ≤ 2 := ht.2 19 _
          have i_14 := i_ne rfl (show (0 : Int32).toInt = 0 by decide) c6
          refine ⟨vin rfl (by omega) (by omega), ?_⟩
          intro x7 ex7
          have f_15 : -1 ≤ (gF z 20 v1.toNatClampNeg).toInt ∧ (gF z 20 v1.toNatClampNeg).toInt ≤ 167 := ht.2 20 _
          have ix7 : x7.toInt = (gF z 20 v1.toNatClampNeg).toInt := by rw [ex7]
          refine s_X5_isBefore_c34 b1 v1 z _ ht (by omega) (fun r9 hp_16 => ?_)
          rcases hp_16 with ⟨er9, hp_16⟩ | ⟨er9, hp_16⟩
          · subst er9
            intro K10 hK_17
            refine ⟨fun hc => absurd hc (by decide), fun _ => ?_⟩
            refine ⟨vin rfl (by omega) (by omega), ?_⟩
            refine ⟨fun c16 => ?_, fun c16 => ?_⟩
            · skip
              have f_18 : 0 ≤ (gF z 17 b1.toNatClampNeg).toInt ∧ (gF z 17 b1.toNatClampNeg).toInt ≤ 4 := ht.2 17 _
              have i_19 := i_le rfl rfl c16
              refine hK_17  ?_
              refine s_X5_isBefore_c34 v1 b1 z _ ht (by omega) (fun r_20 hp_23 => ?_)
              rcases hp_23 with ⟨er_20, hp_23⟩ | ⟨er_20, hp_23⟩
              · subst er_20
                refine ⟨fun hc => absurd hc (by decide), fun _ => ?_⟩
                refine ⟨vin rfl (by omega) (by omega), ?_⟩
                refine ⟨fun c_22 => ?_, fun c_22 => ?_⟩
                · skip
                  have f_24 : 0 ≤ (gF z 17 v1.toNatClampNeg).toInt ∧ (gF z 17 v1.toNatClampNeg).toInt ≤ 4 := ht.2 17 _
                  have i_25 := i_le (a_add rfl rfl (by omega) (by omega)) rfl c_22
                  refine hK_12  ?_
                  intro y_26 ey_26
                  have iy_26 : y_26.toInt = (v1.toInt + (1)) := by rw [ey_26]; exact (a_add rfl (show (1 : Int32).toInt = 1 by decide) (by omega) (by omega))
                  exact ih_5 y_26 (by omega) (by omega) (by omega)
                · skip
                  have f_27 : 0 ≤ (gF z 17 v1.toNatClampNeg).toInt ∧ (gF z 17 v1.toNatClampNeg).toInt ≤ 4 := ht.2 17 _
                  have i_28 := i_nle (a_add rfl rfl (by omega) (by omega)) rfl c_22
                  have g_29 : (0 : Int32).toInt = 0 := by decide
                  exact hk ((0 : Int32)) (Or.inr ⟨rfl, trivial⟩)
              · subst er_20
                refine ⟨fun _ => ?_, fun hc => absurd (show ((0 : Int32)) = ((0 : Int32)) by decide) hc⟩
                refine hK_12  ?_
                intro y_30 ey_30
                have iy_30 : y_30.toInt = (v1.toInt + (1)) := by rw [ey_30]; exact (a_add rfl (show (1 : Int32).toInt = 1 by decide) (by omega) (by omega))
                exact ih_5 y_30 (by omega) (by omega) (by omega)
            · skip
              have f_31 : 0 ≤ (gF z 17 b1.toNatClampNeg).toInt ∧ (gF z 17 b1.toNatClampNeg).toInt ≤ 4 := ht.2 17 _
              have i_32 := i_nle rfl rfl c16
              have g_33 : (0 : Int32).toInt = 0 := by decide
              exact hk ((0 : Int32)) (Or.inr ⟨rfl, trivial⟩)
          · subst er9
            intro K10 hK_34
            refine ⟨fun _ => ?_, fun hc => absurd (show ((0 : Int32)) = ((0 : Int32)) by decide) hc⟩
            refine hK_34  ?_
            refine s_X5_isBefore_c34 v1 b1 z _ ht (by omega) (fun r_35 hp_38 => ?_)
            rcases hp_38 with ⟨er_35, hp_38⟩ | ⟨er_35, hp_38⟩
            · subst er_35
              refine ⟨fun hc => absurd hc (by decide), fun _ => ?_⟩
              refine ⟨vin rfl (by omega) (by omega), ?_⟩
              refine ⟨fun c_37 => ?_, fun c_37 => ?_⟩
              · skip
                have f_39 : 0 ≤ (gF z 17 v1.toNatClampNeg).toInt ∧ (gF z 17 v1.toNatClampNeg).toInt ≤ 4 := ht.2 17 _
                have i_40 := i_le (a_add rfl rfl (by omega) (by omega)) rfl c_37
                refine hK_12  ?_
                intro y_41 ey_41
                have iy_41 : y_41.toInt = (v1.toInt + (1)) := by rw [ey_41]; exact (a_add rfl (show (1 : Int32).toInt = 1 by decide) (by omega) (by omega))
                exact ih_5 y_41 (by omega) (by omega) (by omega)
              · skip
                have f_42 : 0 ≤ (gF z 17 v1.toNatClampNeg).toInt ∧ (gF z 17 v1.toNatClampNeg).toInt ≤ 4 := ht.2 17 _
                have i_43 := i_nle (a_add rfl rfl (by omega) (by omega)) rfl c_37
                have g_44 : (0 : Int32).toInt = 0 := by decide
                exact hk ((0 : Int32)) (Or.inr ⟨rfl, trivial⟩)
            · subst er_35
              refine ⟨fun _ => ?_, fun hc => absurd (show ((0 : Int32)) = ((0 : Int32)) by decide) hc⟩
              refine hK_12  ?_
              intro y_45 ey_45
              have iy_45 : y_45.toInt = (v1.toInt + (1)) := by rw [ey_45]; exact (a_add rfl (show (1 : Int32).toInt = 1 by decide) (by omega) (by omega))
              exact ih_5 y_45 (by omega) (by omega) (by omega)
        · skip
          have f_46 : 0 ≤ (gF z 19 v1.toNatClampNeg).toInt ∧ (gF z 19 v1.toNatClampNeg).toInt ≤ 2 := ht.2 19 _
          have i_47 := i_eq rfl (show (0 : Int32).toInt = 0 by decide) c6
          refine hK_12  ?_
          intro y_48 ey_48
          have iy_48 : y_48.toInt = (v1.toInt + (1)) := by rw [ey_48]; exact (a_add rfl (show (1 : Int32).toInt = 1 by decide) (by omega) (by omega))
          exact ih_5 y_48 (by omega) (by omega) (by omega)
  have g_49 : (0 : Int32).toInt = 0 := by decide
  exact L_2 ((16 - (0 : Int32).toInt).toNat + 1) ((0 : Int32)) (by omega) (by omega) (by omega)

set_option maxHeartbeats 2000000 in
theorem s_X0_draws (b1 : Int32) (b2 : Int32) (z : St) (P : Int32 → Prop) (ht : TX z) (h0 : 0 ≤ b1.toInt ∧ b1.toInt ≤ 3) (h1 : 0 ≤ b2.toInt ∧ b2.toInt ≤ 167) (hk : ∀ r : Int32, True → P r) : wp_X0_draws b1 b2 z P := by
  unfold wp_X0_draws
  refine ⟨vin (a_add (a_mul rfl (show (24 : Int32).toInt = 24 by decide) (by omega) (by omega)) (a_rem rfl (by omega) rfl) (by omega) (by omega)) (by omega) (by omega), ?_⟩
  refine ⟨vin (a_add (a_mul rfl (show (168 : Int32).toInt = 168 by decide) (by omega) (by omega)) rfl (by omega) (by omega)) (by omega) (by omega), ?_⟩
  exact hk ((gF z 9 ((b1 * ((24 : Int32))) + (b2 - b2 / ((24 : Int32)) * ((24 : Int32)))).toNatClampNeg) + (gF z 10 ((b1 * ((168 : Int32))) + b2).toNatClampNeg)) trivial

set_option maxHeartbeats 2000000 in
theorem s_X0_allDraw (b1 : Int32) (z : St) (P : Int32 → Prop) (ht : TX z) (h0 : 0 ≤ b1.toInt ∧ b1.toInt ≤ 167) (hk : ∀ r : Int32, True → P r) : wp_X0_allDraw b1 z P := by
  unfold wp_X0_allDraw
  refine ⟨vin (a_rem rfl (by omega) rfl) (by omega) (by omega), ?_⟩
  refine ⟨vin rfl (by omega) (by omega), ?_⟩
  exact hk ((gF z 11 (b1 - b1 / ((24 : Int32)) * ((24 : Int32))).toNatClampNeg) + (gF z 12 b1.toNatClampNeg)) trivial

