def okM (j : Nat) (x : Int32) : Prop := if j = 2 then 0 ≤ x.toInt ∧ x.toInt ≤ 167 else if j = 3 then 0 ≤ x.toInt ∧ x.toInt ≤ 400 else if j = 8 then 0 ≤ x.toInt ∧ x.toInt ≤ 4 else if j = 12 then 0 ≤ x.toInt ∧ x.toInt ≤ 16 else if j = 22 then 0 ≤ x.toInt ∧ x.toInt ≤ 20 else if j = 34 then 0 ≤ x.toInt ∧ x.toInt ≤ 20 else if j = 36 then 0 ≤ x.toInt ∧ x.toInt ≤ 300 else if j = 37 then 0 ≤ x.toInt ∧ x.toInt ≤ 300 else if j = 38 then 0 ≤ x.toInt ∧ x.toInt ≤ 300 else if j = 42 then 0 ≤ x.toInt ∧ x.toInt ≤ 1 else if j = 43 then 0 ≤ x.toInt ∧ x.toInt ≤ 6 else if j = 55 then 0 ≤ x.toInt ∧ x.toInt ≤ 48 else True
def okMF (j i : Nat) (x : Int32) : Prop := if j = 1 then 0 ≤ x.toInt ∧ x.toInt ≤ 167 else if j = 6 then 0 ≤ x.toInt ∧ x.toInt ≤ 3 else if j = 7 then 0 ≤ x.toInt ∧ x.toInt ≤ 167 else if j = 8 then 0 ≤ x.toInt ∧ x.toInt ≤ 167 else if j = 9 then 0 ≤ x.toInt ∧ x.toInt ≤ 4 else if j = 18 then 0 ≤ x.toInt ∧ x.toInt ≤ 15 else if j = 26 then 0 ≤ x.toInt ∧ x.toInt ≤ 3 else if j = 27 then 0 ≤ x.toInt ∧ x.toInt ≤ 40 else if j = 28 then 0 ≤ x.toInt ∧ x.toInt ≤ 40 else if j = 29 then 0 ≤ x.toInt ∧ x.toInt ≤ 10 else if j = 30 then 0 ≤ x.toInt ∧ x.toInt ≤ 10 else if j = 31 then 0 ≤ x.toInt ∧ x.toInt ≤ 3 else True
abbrev TM (z : St) : Prop := Ty okM okMF z
def OM (z : St) : Int32 × Int32 × Int32 × Int32 × Int32 × Int32 × Int32 × Int32 × (Nat → Int32) × (Nat → Int32) × (Nat → Int32) := (gI z 36, gI z 8, gI z 11, gI z 7, gI z 3, gI z 43, gI z 12, gI z 2, gF z 1, gF z 2, gF z 3)
theorem lgc_lt {x y : Int64} : lg_cmp x y < 0 ↔ x.toInt < y.toInt := by
  unfold lg_cmp
  by_cases h : y < x
  · have := Int64.lt_iff_toInt_lt.mp h
    rw [if_pos h]
    constructor
    · intro q; exact absurd q (by decide)
    · intro q; omega
  · have h2 := Int64.le_iff_toInt_le.mp (Int64.not_lt.mp h)
    rw [if_neg h]
    by_cases e : x = y
    · subst e; simp
    · have h3 : x.toInt ≠ y.toInt := fun q => e (Int64.toInt_inj.mp q)
      rw [if_neg e]
      constructor
      · intro _; omega
      · intro _; decide
theorem lgc_gt {x y : Int64} : 0 < lg_cmp x y ↔ y.toInt < x.toInt := by
  unfold lg_cmp
  by_cases h : y < x
  · have := Int64.lt_iff_toInt_lt.mp h
    rw [if_pos h]
    constructor
    · intro _; omega
    · intro _; decide
  · have h2 := Int64.le_iff_toInt_le.mp (Int64.not_lt.mp h)
    rw [if_neg h]
    by_cases e : x = y
    · subst e; simp
    · rw [if_neg e]
      constructor
      · intro q; exact absurd q (by decide)
      · intro q; omega
theorem s_X9_in (b1 b2 b3 : Int64) (z : St) (P : Int32 → Prop) (ht : TM z) (hk : ∀ r : Int32, (r = 1 ∧ (b2.toInt ≤ b1.toInt ∧ b1.toInt ≤ b3.toInt)) ∨ (r = 0 ∧ (b1.toInt < b2.toInt ∨ b3.toInt < b1.toInt)) → P r) : wp_X9_in b1 b2 b3 z P := by
  unfold wp_X9_in
  refine ⟨fun c => hk 0 (Or.inr ⟨rfl, Or.inl (lgc_lt.mp c)⟩), fun c => ⟨fun c2 => hk 0 (Or.inr ⟨rfl, Or.inr (lgc_gt.mp c2)⟩), fun c2 => hk 1 (Or.inl ⟨rfl, ?_⟩)⟩⟩
  rw [lgc_lt] at c
  rw [lgc_gt] at c2
  omega

set_option maxHeartbeats 2000000 in
theorem s_X9_isHour (b1 : Int32) (z : St) (P : Int32 → Prop) (ht : TM z)  (hk : ∀ r : Int32, (r = 1 ∧ (0 ≤ b1.toInt ∧ b1.toInt ≤ 167)) ∨ (r = 0 ∧ (b1.toInt < 0 ∨ 167 < b1.toInt)) → P r) : wp_X9_isHour b1 z P := by
  unfold wp_X9_isHour
  have g_1 : (Int32.toInt64 b1).toInt = b1.toInt := (a_wide rfl)
  have g_2 : (0 : Int64).toInt = 0 := by decide
  have g_3 : (167 : Int64).toInt = 167 := by decide
  refine s_X9_in (Int32.toInt64 b1) ((0 : Int64)) ((167 : Int64)) z _ ht  (fun r2 hp_4 => ?_)
  rcases hp_4 with ⟨er2, hp_4⟩ | ⟨er2, hp_4⟩
  · subst er2
    have g_5 : (1 : Int32).toInt = 1 := by decide
    refine ⟨Or.inr rfl, ?_⟩
    exact hk ((1 : Int32)) (Or.inl ⟨rfl, (by omega)⟩)
  · subst er2
    have g_6 : (0 : Int32).toInt = 0 := by decide
    refine ⟨Or.inl rfl, ?_⟩
    exact hk ((0 : Int32)) (Or.inr ⟨rfl, (by omega)⟩)

set_option maxHeartbeats 2000000 in
theorem s_X9_told (b1 : Int32) (z : St) (P : Int32 → St → Prop) (ht : TM z)  (hk : ∀ (r : Int32) (z2 : St), TM z2 → Same [1] [] z z2 → (r.toInt = b1.toInt) → P r z2) : wp_X9_told b1 z P := by
  unfold wp_X9_told
  refine ⟨fun c1 => ?_, fun c1 => ?_⟩
  · skip
    have i_1 := i_le (show (0 : Int32).toInt = 0 by decide) rfl c1
    intro z2 ez2
    have tz2 : TM z2 := by rw [ez2]; exact Ty_wI ht trivial
    have oz2 : Same [1] [] z z2 := (Same.rf (z := z)).i (by decide) ez2
    exact hk b1 z2 tz2 oz2 (by omega)
  · skip
    have i_2 := i_nle (show (0 : Int32).toInt = 0 by decide) rfl c1
    intro z3 ez3
    have tz3 : TM z3 := by rw [ez3]; exact Ty_wI ht trivial
    have oz3 : Same [1] [] z z3 := (Same.rf (z := z)).i (by decide) ez3
    exact hk b1 z3 tz3 oz3 (by omega)

set_option maxHeartbeats 2000000 in
theorem s_X9_isKnown (b1 : Int32) (z : St) (P : Int32 → Prop) (ht : TM z)  (hk : ∀ r : Int32, (r = 1 ∧ (0 ≤ b1.toInt ∧ b1.toInt ≤ 1000)) ∨ (r = 0 ∧ (b1.toInt < 0 ∨ 1000 < b1.toInt)) → P r) : wp_X9_isKnown b1 z P := by
  unfold wp_X9_isKnown
  have g_1 : (Int32.toInt64 b1).toInt = b1.toInt := (a_wide rfl)
  have g_2 : (0 : Int64).toInt = 0 := by decide
  have g_3 : (1000 : Int64).toInt = 1000 := by decide
  refine s_X9_in (Int32.toInt64 b1) ((0 : Int64)) ((1000 : Int64)) z _ ht  (fun r2 hp_4 => ?_)
  rcases hp_4 with ⟨er2, hp_4⟩ | ⟨er2, hp_4⟩
  · subst er2
    have g_5 : (1 : Int32).toInt = 1 := by decide
    refine ⟨Or.inr rfl, ?_⟩
    exact hk ((1 : Int32)) (Or.inl ⟨rfl, (by omega)⟩)
  · subst er2
    have g_6 : (0 : Int32).toInt = 0 := by decide
    refine ⟨Or.inl rfl, ?_⟩
    exact hk ((0 : Int32)) (Or.inr ⟨rfl, (by omega)⟩)

set_option maxHeartbeats 2000000 in
theorem s_X9_price (b1 : Int32) (b2 : Int32) (b3 : Int32) (z : St) (P : Int32 → St → Prop) (ht : TM z)  (hk : ∀ (r : Int32) (z2 : St), TM z2 → Same [0, 1, 3, 21] [1, 2, 3] z z2 → ((((b1.toInt < 0 ∨ 167 < b1.toInt) ∨ (b2.toInt < -1000 ∨ 10000 < b2.toInt) ∨ (b3.toInt < 0 ∨ 1000 < b3.toInt)) ∧ r.toInt = -1 ∧ (gI z2 3).toInt = (gI z 3).toInt) ∨ ((0 ≤ b1.toInt ∧ b1.toInt ≤ 167) ∧ (-1000 ≤ b2.toInt ∧ b2.toInt ≤ 10000) ∧ (0 ≤ b3.toInt ∧ b3.toInt ≤ 1000) ∧ (gI z 3).toInt = 400 ∧ r.toInt = -5 ∧ (gI z2 3).toInt = (gI z 3).toInt) ∨ ((0 ≤ b1.toInt ∧ b1.toInt ≤ 167) ∧ (-1000 ≤ b2.toInt ∧ b2.toInt ≤ 10000) ∧ (0 ≤ b3.toInt ∧ b3.toInt ≤ 1000) ∧ (gI z 3).toInt ≤ 399 ∧ r.toInt = (gI z 3).toInt + 1 ∧ (gI z2 3).toInt = (gI z 3).toInt + 1)) → P r z2) : wp_X9_price b1 b2 b3 z P := by
  unfold wp_X9_price
  intro z1 ez1
  have tz1 : TM z1 := by rw [ez1]; exact Ty_wI ht trivial
  have oz1 : Same [0, 1, 3, 21] [1, 2, 3] z z1 := (Same.rf (z := z)).i (by decide) ez1
  refine s_X9_isHour b1 z1 _ tz1  (fun r3 hp_1 => ?_)
  rcases hp_1 with ⟨er3, hp_1⟩ | ⟨er3, hp_1⟩
  · subst er3
    intro K4 hK_2
    refine ⟨fun hc => absurd hc (by decide), fun _ => ?_⟩
    have g_3 : (Int32.toInt64 b2).toInt = b2.toInt := (a_wide rfl)
    have g_4 : (-1000 : Int64).toInt = -1000 := by decide
    have g_5 : (10000 : Int64).toInt = 10000 := by decide
    refine s_X9_in (Int32.toInt64 b2) ((-1000 : Int64)) ((10000 : Int64)) z1 _ tz1  (fun r9 hp_6 => ?_)
    rcases hp_6 with ⟨er9, hp_6⟩ | ⟨er9, hp_6⟩
    · subst er9
      refine ⟨fun hc => absurd hc (by decide), fun _ => ?_⟩
      refine s_X9_isKnown b3 z1 _ tz1  (fun r12 hp_7 => ?_)
      rcases hp_7 with ⟨er12, hp_7⟩ | ⟨er12, hp_7⟩
      · subst er12
        refine ⟨fun _ => ?_, fun hc => absurd hc (by decide)⟩
        refine ⟨fun c14 => ?_, fun c14 => ?_⟩
        · skip
          have f_8 : 0 ≤ (gI z1 3).toInt ∧ (gI z1 3).toInt ≤ 400 := tz1.1 3
          have q_9 := (show (gI z1 3).toInt = (gI z 3).toInt by rw [ez1]; rfl)
          have f_10 : 0 ≤ (gI z 3).toInt ∧ (gI z 3).toInt ≤ 400 := ht.1 3
          have i_11 := i_ne rfl (show (400 : Int32).toInt = 400 by decide) c14
          refine ⟨vin rfl (by omega) (by omega), ?_⟩
          intro z15 ez15
          have tz15 : TM z15 := by rw [ez15]; exact Ty_wR tz1 (show 0 ≤ b1.toInt ∧ b1.toInt ≤ 167 from by omega)
          have oz15 : Same [0, 1, 3, 21] [1, 2, 3] z z15 := oz1.r (by decide) ez15
          have f_12 : 0 ≤ (gI z15 3).toInt ∧ (gI z15 3).toInt ≤ 400 := tz15.1 3
          have q_13 := ((show (gI z15 3).toInt = (gI z1 3).toInt by rw [ez15]; rfl)).trans (show (gI z1 3).toInt = (gI z 3).toInt by rw [ez1]; rfl)
          refine ⟨vin rfl (by omega) (by omega), ?_⟩
          intro z16 ez16
          have tz16 : TM z16 := by rw [ez16]; exact Ty_wR tz15 trivial
          have oz16 : Same [0, 1, 3, 21] [1, 2, 3] z z16 := oz15.r (by decide) ez16
          have f_14 : 0 ≤ (gI z16 3).toInt ∧ (gI z16 3).toInt ≤ 400 := tz16.1 3
          have q_15 := (((show (gI z16 3).toInt = (gI z15 3).toInt by rw [ez16]; rfl)).trans (show (gI z15 3).toInt = (gI z1 3).toInt by rw [ez15]; rfl)).trans (show (gI z1 3).toInt = (gI z 3).toInt by rw [ez1]; rfl)
          refine ⟨vin rfl (by omega) (by omega), ?_⟩
          intro z17 ez17
          have tz17 : TM z17 := by rw [ez17]; exact Ty_wR tz16 trivial
          have oz17 : Same [0, 1, 3, 21] [1, 2, 3] z z17 := oz16.r (by decide) ez17
          intro z18 ez18
          have f_16 : 0 ≤ (gI z17 3).toInt ∧ (gI z17 3).toInt ≤ 400 := tz17.1 3
          have q_17 := ((((show (gI z17 3).toInt = (gI z16 3).toInt by rw [ez17]; rfl)).trans (show (gI z16 3).toInt = (gI z15 3).toInt by rw [ez16]; rfl)).trans (show (gI z15 3).toInt = (gI z1 3).toInt by rw [ez15]; rfl)).trans (show (gI z1 3).toInt = (gI z 3).toInt by rw [ez1]; rfl)
          have tz18 : TM z18 := by rw [ez18]; exact Ty_wI tz17 (show 0 ≤ ((gI z17 3) + (1 : Int32)).toInt ∧ ((gI z17 3) + (1 : Int32)).toInt ≤ 400 from by rw [(a_add rfl (show (1 : Int32).toInt = 1 by decide) (by omega) (by omega))]; omega)
          have oz18 : Same [0, 1, 3, 21] [1, 2, 3] z z18 := oz17.i (by decide) ez18
          intro z19 ez19
          have tz19 : TM z19 := by rw [ez19]; exact Ty_wI tz18 trivial
          have oz19 : Same [0, 1, 3, 21] [1, 2, 3] z z19 := oz18.i (by decide) ez19
          have f_18 : 0 ≤ (gI z19 3).toInt ∧ (gI z19 3).toInt ≤ 400 := tz19.1 3
          have q_19 := ((show (gI z19 3).toInt = (gI z18 3).toInt by rw [ez19]; rfl)).trans (show (gI z18 3).toInt = ((gI z17 3) + (1 : Int32)).toInt by rw [ez18]; rfl)
          have q_20 : ((gI z17 3) + (1 : Int32)).toInt = ((gI z17 3).toInt + (1)) := (a_add rfl (show (1 : Int32).toInt = 1 by decide) (by omega) (by omega))
          refine s_X9_told (gI z19 3) z19 _ tz19  (fun r21 z20 tz20 o_22 hp_21 => ?_)
          have oz20 : Same [0, 1, 3, 21] [1, 2, 3] z z20 := oz19.tr o_22 (by decide) (by decide)
          have f_23 : 0 ≤ (gI z20 3).toInt ∧ (gI z20 3).toInt ≤ 400 := tz20.1 3
          have q_24 := (((o_22.fi 3 (by decide))).trans (show (gI z19 3).toInt = (gI z18 3).toInt by rw [ez19]; rfl)).trans (show (gI z18 3).toInt = ((gI z17 3) + (1 : Int32)).toInt by rw [ez18]; rfl)
          have q_25 : ((gI z17 3) + (1 : Int32)).toInt = ((gI z17 3).toInt + (1)) := (a_add rfl (show (1 : Int32).toInt = 1 by decide) (by omega) (by omega))
          exact hk r21 z20 tz20 oz20 (by omega)
        · skip
          have f_26 : 0 ≤ (gI z1 3).toInt ∧ (gI z1 3).toInt ≤ 400 := tz1.1 3
          have q_27 := (show (gI z1 3).toInt = (gI z 3).toInt by rw [ez1]; rfl)
          have f_28 : 0 ≤ (gI z 3).toInt ∧ (gI z 3).toInt ≤ 400 := ht.1 3
          have i_29 := i_eq rfl (show (400 : Int32).toInt = 400 by decide) c14
          have g_30 : (-5 : Int32).toInt = -5 := by decide
          refine s_X9_told ((-5 : Int32)) z1 _ tz1  (fun r23 z22 tz22 o_32 hp_31 => ?_)
          have oz22 : Same [0, 1, 3, 21] [1, 2, 3] z z22 := oz1.tr o_32 (by decide) (by decide)
          have f_33 : 0 ≤ (gI z22 3).toInt ∧ (gI z22 3).toInt ≤ 400 := tz22.1 3
          have q_34 := ((o_32.fi 3 (by decide))).trans (show (gI z1 3).toInt = (gI z 3).toInt by rw [ez1]; rfl)
          exact hk r23 z22 tz22 oz22 (by omega)
      · subst er12
        refine ⟨fun hc => absurd hc (by decide), fun _ => ?_⟩
        refine hK_2  ?_
        have g_37 : (-1 : Int32).toInt = -1 := by decide
        refine s_X9_told ((-1 : Int32)) z1 _ tz1  (fun r_35 z_36 tz_36 o_39 hp_38 => ?_)
        have oz_36 : Same [0, 1, 3, 21] [1, 2, 3] z z_36 := oz1.tr o_39 (by decide) (by decide)
        have f_40 : 0 ≤ (gI z_36 3).toInt ∧ (gI z_36 3).toInt ≤ 400 := tz_36.1 3
        have q_41 := ((o_39.fi 3 (by decide))).trans (show (gI z1 3).toInt = (gI z 3).toInt by rw [ez1]; rfl)
        have f_42 : 0 ≤ (gI z 3).toInt ∧ (gI z 3).toInt ≤ 400 := ht.1 3
        exact hk r_35 z_36 tz_36 oz_36 (by omega)
    · subst er9
      refine ⟨fun _ => ?_, fun hc => absurd (show ((0 : Int32)) = ((0 : Int32)) by decide) hc⟩
      refine hK_2  ?_
      have g_45 : (-1 : Int32).toInt = -1 := by decide
      refine s_X9_told ((-1 : Int32)) z1 _ tz1  (fun r_43 z_44 tz_44 o_47 hp_46 => ?_)
      have oz_44 : Same [0, 1, 3, 21] [1, 2, 3] z z_44 := oz1.tr o_47 (by decide) (by decide)
      have f_48 : 0 ≤ (gI z_44 3).toInt ∧ (gI z_44 3).toInt ≤ 400 := tz_44.1 3
      have q_49 := ((o_47.fi 3 (by decide))).trans (show (gI z1 3).toInt = (gI z 3).toInt by rw [ez1]; rfl)
      have f_50 : 0 ≤ (gI z 3).toInt ∧ (gI z 3).toInt ≤ 400 := ht.1 3
      exact hk r_43 z_44 tz_44 oz_44 (by omega)
  · subst er3
    intro K4 hK_51
    refine ⟨fun _ => ?_, fun hc => absurd (show ((0 : Int32)) = ((0 : Int32)) by decide) hc⟩
    refine hK_51  ?_
    have g_54 : (-1 : Int32).toInt = -1 := by decide
    refine s_X9_told ((-1 : Int32)) z1 _ tz1  (fun r_52 z_53 tz_53 o_56 hp_55 => ?_)
    have oz_53 : Same [0, 1, 3, 21] [1, 2, 3] z z_53 := oz1.tr o_56 (by decide) (by decide)
    have f_57 : 0 ≤ (gI z_53 3).toInt ∧ (gI z_53 3).toInt ≤ 400 := tz_53.1 3
    have q_58 := ((o_56.fi 3 (by decide))).trans (show (gI z1 3).toInt = (gI z 3).toInt by rw [ez1]; rfl)
    have f_59 : 0 ≤ (gI z 3).toInt ∧ (gI z 3).toInt ≤ 400 := ht.1 3
    exact hk r_52 z_53 tz_53 oz_53 (by omega)

set_option maxHeartbeats 2000000 in
theorem s_X9_plain (b1 : Int32) (z : St) (P : Int32 → St → Prop) (ht : TM z)  (hk : ∀ (r : Int32) (z2 : St), TM z2 → Same [0, 1, 7, 21] [] z z2 → (((b1.toInt < -1000 ∨ 10000 < b1.toInt) ∧ r.toInt = -5000 ∧ (gI z2 7).toInt = (gI z 7).toInt) ∨ ((-1000 ≤ b1.toInt ∧ b1.toInt ≤ 10000) ∧ r.toInt = (gI z 7).toInt ∧ (gI z2 7).toInt = b1.toInt)) → P r z2) : wp_X9_plain b1 z P := by
  unfold wp_X9_plain
  intro z1 ez1
  have tz1 : TM z1 := by rw [ez1]; exact Ty_wI ht trivial
  have oz1 : Same [0, 1, 7, 21] [] z z1 := (Same.rf (z := z)).i (by decide) ez1
  have g_1 : (Int32.toInt64 b1).toInt = b1.toInt := (a_wide rfl)
  have g_2 : (-1000 : Int64).toInt = -1000 := by decide
  have g_3 : (10000 : Int64).toInt = 10000 := by decide
  refine s_X9_in (Int32.toInt64 b1) ((-1000 : Int64)) ((10000 : Int64)) z1 _ tz1  (fun r3 hp_4 => ?_)
  rcases hp_4 with ⟨er3, hp_4⟩ | ⟨er3, hp_4⟩
  · subst er3
    refine ⟨fun _ => ?_, fun hc => absurd hc (by decide)⟩
    intro x5 ex5
    have q_5 := (show (gI z1 7).toInt = (gI z 7).toInt by rw [ez1]; rfl)
    have ix5 : x5.toInt = (gI z1 7).toInt := by rw [ex5]
    intro z6 ez6
    have tz6 : TM z6 := by rw [ez6]; exact Ty_wI tz1 trivial
    have oz6 : Same [0, 1, 7, 21] [] z z6 := oz1.i (by decide) ez6
    intro z7 ez7
    have tz7 : TM z7 := by rw [ez7]; exact Ty_wI tz6 trivial
    have oz7 : Same [0, 1, 7, 21] [] z z7 := oz6.i (by decide) ez7
    intro z8 ez8
    have tz8 : TM z8 := by rw [ez8]; exact Ty_wI tz7 trivial
    have oz8 : Same [0, 1, 7, 21] [] z z8 := oz7.i (by decide) ez8
    have q_6 := (((show (gI z8 7).toInt = (gI z7 7).toInt by rw [ez8]; rfl)).trans (show (gI z7 7).toInt = (gI z6 7).toInt by rw [ez7]; rfl)).trans (show (gI z6 7).toInt = b1.toInt by rw [ez6]; rfl)
    exact hk x5 z8 tz8 oz8 (by omega)
  · subst er3
    refine ⟨fun hc => absurd hc (by decide), fun _ => ?_⟩
    intro z9 ez9
    have tz9 : TM z9 := by rw [ez9]; exact Ty_wI tz1 trivial
    have oz9 : Same [0, 1, 7, 21] [] z z9 := oz1.i (by decide) ez9
    have g_7 : (-5000 : Int32).toInt = -5000 := by decide
    have q_8 := ((show (gI z9 7).toInt = (gI z1 7).toInt by rw [ez9]; rfl)).trans (show (gI z1 7).toInt = (gI z 7).toInt by rw [ez1]; rfl)
    exact hk ((-5000 : Int32)) z9 tz9 oz9 (by omega)

set_option maxHeartbeats 2000000 in
theorem s_X9_priceOf (b1 : Int32) (b2 : Int32) (z : St) (P : Int32 → Prop) (ht : TM z)  (hk : ∀ r : Int32, True → P r) : wp_X9_priceOf b1 b2 z P := by
  unfold wp_X9_priceOf
  intro x1 ex1
  have ix1 : x1.toInt = (gI z 7).toInt := by rw [ex1]
  intro K4 hK_1
  have L_2 : ∀ (n : Nat) (v2 : Int32) (v3 : Int32), (0 ≤ v3.toInt) → (v3.toInt ≤ 400) → (400 - v3.toInt).toNat < n → K4 v2 v3 := by
    intro n
    induction n with
    | zero => intro v2 v3 w_3 w_4 m_6; omega
    | succ n ih_5 =>
      intro v2 v3 w_3 w_4 m_6
      refine hK_1 v2 v3 ?_
      refine ⟨fun c5 => ?_, fun c5 => ?_⟩
      · skip
        have f_7 : 0 ≤ (gI z 3).toInt ∧ (gI z 3).toInt ≤ 400 := ht.1 3
        have i_8 := i_le rfl rfl c5
        exact hk v2 trivial
      · skip
        have f_9 : 0 ≤ (gI z 3).toInt ∧ (gI z 3).toInt ≤ 400 := ht.1 3
        have i_10 := i_nle rfl rfl c5
        refine ⟨vin rfl (by omega) (by omega), ?_⟩
        intro K7 hK_11
        intro K9 hK_12
        refine ⟨fun c10 => ?_, fun c10 => ?_⟩
        · skip
          have f_13 : 0 ≤ (gF z 1 v3.toNatClampNeg).toInt ∧ (gF z 1 v3.toNatClampNeg).toInt ≤ 167 := ht.2 1 _
          have i_14 := i_ne rfl rfl c10
          refine hK_12  ?_
          refine hK_11 v2 ?_
          intro y_15 ey_15
          have iy_15 : y_15.toInt = (v3.toInt + (1)) := by rw [ey_15]; exact (a_add rfl (show (1 : Int32).toInt = 1 by decide) (by omega) (by omega))
          exact ih_5 v2 y_15 (by omega) (by omega) (by omega)
        · skip
          have f_16 : 0 ≤ (gF z 1 v3.toNatClampNeg).toInt ∧ (gF z 1 v3.toNatClampNeg).toInt ≤ 167 := ht.2 1 _
          have i_17 := i_eq rfl rfl c10
          refine ⟨vin rfl (by omega) (by omega), ?_⟩
          refine ⟨fun c11 => ?_, fun c11 => ?_⟩
          · skip
            have i_18 := i_lt rfl rfl c11
            refine hK_12  ?_
            refine hK_11 v2 ?_
            intro y_19 ey_19
            have iy_19 : y_19.toInt = (v3.toInt + (1)) := by rw [ey_19]; exact (a_add rfl (show (1 : Int32).toInt = 1 by decide) (by omega) (by omega))
            exact ih_5 v2 y_19 (by omega) (by omega) (by omega)
          · skip
            have i_20 := i_nlt rfl rfl c11
            refine ⟨vin rfl (by omega) (by omega), ?_⟩
            refine hK_11 ((gF z 2 v3.toNatClampNeg)) ?_
            intro y_21 ey_21
            have iy_21 : y_21.toInt = (v3.toInt + (1)) := by rw [ey_21]; exact (a_add rfl (show (1 : Int32).toInt = 1 by decide) (by omega) (by omega))
            exact ih_5 ((gF z 2 v3.toNatClampNeg)) y_21 (by omega) (by omega) (by omega)
  have g_22 : (0 : Int32).toInt = 0 := by decide
  exact L_2 ((400 - (0 : Int32).toInt).toNat + 1) x1 ((0 : Int32)) (by omega) (by omega) (by omega)

set_option maxHeartbeats 2000000 in
theorem s_X9_at (b1 : Int32) (b2 : Int32) (z : St) (P : Int32 → St → Prop) (ht : TM z)  (hk : ∀ (r : Int32) (z2 : St), TM z2 → Same [0] [] z z2 → (True) → P r z2) : wp_X9_at b1 b2 z P := by
  unfold wp_X9_at
  intro z1 ez1
  have tz1 : TM z1 := by rw [ez1]; exact Ty_wI ht trivial
  have oz1 : Same [0] [] z z1 := (Same.rf (z := z)).i (by decide) ez1
  refine s_X9_isHour b1 z1 _ tz1  (fun r3 hp_1 => ?_)
  rcases hp_1 with ⟨er3, hp_1⟩ | ⟨er3, hp_1⟩
  · subst er3
    refine ⟨fun hc => absurd hc (by decide), fun _ => ?_⟩
    refine s_X9_isKnown b2 z1 _ tz1  (fun r6 hp_2 => ?_)
    rcases hp_2 with ⟨er6, hp_2⟩ | ⟨er6, hp_2⟩
    · subst er6
      refine ⟨fun hc => absurd hc (by decide), fun _ => ?_⟩
      refine s_X9_priceOf b1 b2 z1 _ tz1  (fun r9 hp_3 => ?_)
      exact hk r9 z1 tz1 oz1 trivial
    · subst er6
      refine ⟨fun _ => ?_, fun hc => absurd (show ((0 : Int32)) = ((0 : Int32)) by decide) hc⟩
      have g_4 : (-5000 : Int32).toInt = -5000 := by decide
      exact hk ((-5000 : Int32)) z1 tz1 oz1 trivial
  · subst er3
    refine ⟨fun _ => ?_, fun hc => absurd (show ((0 : Int32)) = ((0 : Int32)) by decide) hc⟩
    have g_5 : (-5000 : Int32).toInt = -5000 := by decide
    exact hk ((-5000 : Int32)) z1 tz1 oz1 trivial

set_option maxHeartbeats 2000000 in
theorem s_X9_home (b1 : Int32) (z : St) (P : Int32 → St → Prop) (ht : TM z)  (hk : ∀ (r : Int32) (z2 : St), TM z2 → Same [0, 1, 8] [4] z z2 → (((b1.toInt < 0 ∨ 20000 < b1.toInt) ∧ r.toInt = -1 ∧ (gI z2 8).toInt = (gI z 8).toInt) ∨ ((0 ≤ b1.toInt ∧ b1.toInt ≤ 20000) ∧ (gI z 8).toInt = 4 ∧ r.toInt = -5 ∧ (gI z2 8).toInt = (gI z 8).toInt) ∨ ((0 ≤ b1.toInt ∧ b1.toInt ≤ 20000) ∧ (gI z 8).toInt ≤ 3 ∧ r.toInt = (gI z 8).toInt ∧ (gI z2 8).toInt = (gI z 8).toInt + 1)) → P r z2) : wp_X9_home b1 z P := by
  unfold wp_X9_home
  intro z1 ez1
  have tz1 : TM z1 := by rw [ez1]; exact Ty_wI ht trivial
  have oz1 : Same [0, 1, 8] [4] z z1 := (Same.rf (z := z)).i (by decide) ez1
  have g_1 : (Int32.toInt64 b1).toInt = b1.toInt := (a_wide rfl)
  have g_2 : (0 : Int64).toInt = 0 := by decide
  have g_3 : (20000 : Int64).toInt = 20000 := by decide
  refine s_X9_in (Int32.toInt64 b1) ((0 : Int64)) ((20000 : Int64)) z1 _ tz1  (fun r3 hp_4 => ?_)
  rcases hp_4 with ⟨er3, hp_4⟩ | ⟨er3, hp_4⟩
  · subst er3
    refine ⟨fun _ => ?_, fun hc => absurd hc (by decide)⟩
    refine ⟨fun c5 => ?_, fun c5 => ?_⟩
    · skip
      have f_5 : 0 ≤ (gI z1 8).toInt ∧ (gI z1 8).toInt ≤ 4 := tz1.1 8
      have q_6 := (show (gI z1 8).toInt = (gI z 8).toInt by rw [ez1]; rfl)
      have f_7 : 0 ≤ (gI z 8).toInt ∧ (gI z 8).toInt ≤ 4 := ht.1 8
      have i_8 := i_ne rfl (show (4 : Int32).toInt = 4 by decide) c5
      refine ⟨vin rfl (by omega) (by omega), ?_⟩
      intro z6 ez6
      have tz6 : TM z6 := by rw [ez6]; exact Ty_wR tz1 trivial
      have oz6 : Same [0, 1, 8] [4] z z6 := oz1.r (by decide) ez6
      intro z7 ez7
      have f_9 : 0 ≤ (gI z6 8).toInt ∧ (gI z6 8).toInt ≤ 4 := tz6.1 8
      have q_10 := ((show (gI z6 8).toInt = (gI z1 8).toInt by rw [ez6]; rfl)).trans (show (gI z1 8).toInt = (gI z 8).toInt by rw [ez1]; rfl)
      have tz7 : TM z7 := by rw [ez7]; exact Ty_wI tz6 (show 0 ≤ ((gI z6 8) + (1 : Int32)).toInt ∧ ((gI z6 8) + (1 : Int32)).toInt ≤ 4 from by rw [(a_add rfl (show (1 : Int32).toInt = 1 by decide) (by omega) (by omega))]; omega)
      have oz7 : Same [0, 1, 8] [4] z z7 := oz6.i (by decide) ez7
      have f_11 : 0 ≤ (gI z7 8).toInt ∧ (gI z7 8).toInt ≤ 4 := tz7.1 8
      have q_12 := (show (gI z7 8).toInt = ((gI z6 8) + (1 : Int32)).toInt by rw [ez7]; rfl)
      have q_13 : ((gI z6 8) + (1 : Int32)).toInt = ((gI z6 8).toInt + (1)) := (a_add rfl (show (1 : Int32).toInt = 1 by decide) (by omega) (by omega))
      have g_14 : ((gI z7 8) - (1 : Int32)).toInt = ((gI z7 8).toInt - (1)) := (a_sub rfl (show (1 : Int32).toInt = 1 by decide) (by omega) (by omega))
      refine s_X9_told ((gI z7 8) - ((1 : Int32))) z7 _ tz7  (fun r9 z8 tz8 o_16 hp_15 => ?_)
      have oz8 : Same [0, 1, 8] [4] z z8 := oz7.tr o_16 (by decide) (by decide)
      have f_17 : 0 ≤ (gI z8 8).toInt ∧ (gI z8 8).toInt ≤ 4 := tz8.1 8
      have q_18 := ((o_16.fi 8 (by decide))).trans (show (gI z7 8).toInt = ((gI z6 8) + (1 : Int32)).toInt by rw [ez7]; rfl)
      have q_19 : ((gI z6 8) + (1 : Int32)).toInt = ((gI z6 8).toInt + (1)) := (a_add rfl (show (1 : Int32).toInt = 1 by decide) (by omega) (by omega))
      exact hk r9 z8 tz8 oz8 (by omega)
    · skip
      have f_20 : 0 ≤ (gI z1 8).toInt ∧ (gI z1 8).toInt ≤ 4 := tz1.1 8
      have q_21 := (show (gI z1 8).toInt = (gI z 8).toInt by rw [ez1]; rfl)
      have f_22 : 0 ≤ (gI z 8).toInt ∧ (gI z 8).toInt ≤ 4 := ht.1 8
      have i_23 := i_eq rfl (show (4 : Int32).toInt = 4 by decide) c5
      have g_24 : (-5 : Int32).toInt = -5 := by decide
      refine s_X9_told ((-5 : Int32)) z1 _ tz1  (fun r11 z10 tz10 o_26 hp_25 => ?_)
      have oz10 : Same [0, 1, 8] [4] z z10 := oz1.tr o_26 (by decide) (by decide)
      have f_27 : 0 ≤ (gI z10 8).toInt ∧ (gI z10 8).toInt ≤ 4 := tz10.1 8
      have q_28 := ((o_26.fi 8 (by decide))).trans (show (gI z1 8).toInt = (gI z 8).toInt by rw [ez1]; rfl)
      exact hk r11 z10 tz10 oz10 (by omega)
  · subst er3
    refine ⟨fun hc => absurd hc (by decide), fun _ => ?_⟩
    have g_29 : (-1 : Int32).toInt = -1 := by decide
    refine s_X9_told ((-1 : Int32)) z1 _ tz1  (fun r13 z12 tz12 o_31 hp_30 => ?_)
    have oz12 : Same [0, 1, 8] [4] z z12 := oz1.tr o_31 (by decide) (by decide)
    have f_32 : 0 ≤ (gI z12 8).toInt ∧ (gI z12 8).toInt ≤ 4 := tz12.1 8
    have q_33 := ((o_31.fi 8 (by decide))).trans (show (gI z1 8).toInt = (gI z 8).toInt by rw [ez1]; rfl)
    have f_34 : 0 ≤ (gI z 8).toInt ∧ (gI z 8).toInt ≤ 4 := ht.1 8
    exact hk r13 z12 tz12 oz12 (by omega)

set_option maxHeartbeats 2000000 in
theorem s_X9_isHome (b1 : Int32) (z : St) (P : Int32 → Prop) (ht : TM z)  (hk : ∀ r : Int32, (r = 1 ∧ (0 ≤ b1.toInt ∧ b1.toInt < (gI z 8).toInt)) ∨ (r = 0 ∧ (b1.toInt < 0 ∨ (gI z 8).toInt ≤ b1.toInt)) → P r) : wp_X9_isHome b1 z P := by
  unfold wp_X9_isHome
  have g_1 : (Int32.toInt64 b1).toInt = b1.toInt := (a_wide rfl)
  have g_2 : (0 : Int64).toInt = 0 := by decide
  have f_3 : 0 ≤ (gI z 8).toInt ∧ (gI z 8).toInt ≤ 4 := ht.1 8
  have g_4 : ((Int32.toInt64 (gI z 8)) - (1 : Int64)).toInt = ((gI z 8).toInt - (1)) := (a_subL (a_wide rfl) (show (1 : Int64).toInt = 1 by decide) (by omega) (by omega))
  refine s_X9_in (Int32.toInt64 b1) ((0 : Int64)) ((Int32.toInt64 (gI z 8)) - ((1 : Int64))) z _ ht  (fun r2 hp_5 => ?_)
  rcases hp_5 with ⟨er2, hp_5⟩ | ⟨er2, hp_5⟩
  · subst er2
    have g_6 : (1 : Int32).toInt = 1 := by decide
    refine ⟨Or.inr rfl, ?_⟩
    exact hk ((1 : Int32)) (Or.inl ⟨rfl, (by omega)⟩)
  · subst er2
    have g_7 : (0 : Int32).toInt = 0 := by decide
    refine ⟨Or.inl rfl, ?_⟩
    exact hk ((0 : Int32)) (Or.inr ⟨rfl, (by omega)⟩)

set_option maxHeartbeats 2000000 in
theorem s_X9_base (b1 : Int32) (b2 : Int32) (b3 : Int32) (z : St) (P : Int32 → St → Prop) (ht : TM z)  (hk : ∀ (r : Int32) (z2 : St), TM z2 → Same [0, 1] [5] z z2 → ((((b2.toInt < 0 ∨ 23 < b2.toInt) ∨ (b3.toInt < 0 ∨ 5000 < b3.toInt)) ∧ r.toInt = -1) ∨ ((0 ≤ b2.toInt ∧ b2.toInt ≤ 23) ∧ (0 ≤ b3.toInt ∧ b3.toInt ≤ 5000) ∧ (b1.toInt < 0 ∨ (gI z 8).toInt ≤ b1.toInt) ∧ r.toInt = -2) ∨ ((0 ≤ b2.toInt ∧ b2.toInt ≤ 23) ∧ (0 ≤ b3.toInt ∧ b3.toInt ≤ 5000) ∧ 0 ≤ b1.toInt ∧ b1.toInt < (gI z 8).toInt ∧ r.toInt = 0)) → P r z2) : wp_X9_base b1 b2 b3 z P := by
  unfold wp_X9_base
  intro z1 ez1
  have tz1 : TM z1 := by rw [ez1]; exact Ty_wI ht trivial
  have oz1 : Same [0, 1] [5] z z1 := (Same.rf (z := z)).i (by decide) ez1
  have g_1 : (Int32.toInt64 b2).toInt = b2.toInt := (a_wide rfl)
  have g_2 : (0 : Int64).toInt = 0 := by decide
  have g_3 : (23 : Int64).toInt = 23 := by decide
  refine s_X9_in (Int32.toInt64 b2) ((0 : Int64)) ((23 : Int64)) z1 _ tz1  (fun r3 hp_4 => ?_)
  rcases hp_4 with ⟨er3, hp_4⟩ | ⟨er3, hp_4⟩
  · subst er3
    intro K4 hK_5
    refine ⟨fun hc => absurd hc (by decide), fun _ => ?_⟩
    have g_6 : (Int32.toInt64 b3).toInt = b3.toInt := (a_wide rfl)
    have g_7 : (0 : Int64).toInt = 0 := by decide
    have g_8 : (5000 : Int64).toInt = 5000 := by decide
    refine s_X9_in (Int32.toInt64 b3) ((0 : Int64)) ((5000 : Int64)) z1 _ tz1  (fun r9 hp_9 => ?_)
    rcases hp_9 with ⟨er9, hp_9⟩ | ⟨er9, hp_9⟩
    · subst er9
      refine ⟨fun _ => ?_, fun hc => absurd hc (by decide)⟩
      refine s_X9_isHome b1 z1 _ tz1  (fun r12 hp_10 => ?_)
      rcases hp_10 with ⟨er12, hp_10⟩ | ⟨er12, hp_10⟩
      · subst er12
        have f_11 : 0 ≤ (gI z1 8).toInt ∧ (gI z1 8).toInt ≤ 4 := tz1.1 8
        have q_12 := (show (gI z1 8).toInt = (gI z 8).toInt by rw [ez1]; rfl)
        have f_13 : 0 ≤ (gI z 8).toInt ∧ (gI z 8).toInt ≤ 4 := ht.1 8
        refine ⟨fun _ => ?_, fun hc => absurd hc (by decide)⟩
        refine ⟨vin (a_add (a_mul (show (24 : Int32).toInt = 24 by decide) rfl (by omega) (by omega)) rfl (by omega) (by omega)) (by omega) (by omega), ?_⟩
        intro z14 ez14
        have tz14 : TM z14 := by rw [ez14]; exact Ty_wR tz1 trivial
        have oz14 : Same [0, 1] [5] z z14 := oz1.r (by decide) ez14
        have g_14 : (0 : Int32).toInt = 0 := by decide
        refine s_X9_told ((0 : Int32)) z14 _ tz14  (fun r16 z15 tz15 o_16 hp_15 => ?_)
        have oz15 : Same [0, 1] [5] z z15 := oz14.tr o_16 (by decide) (by decide)
        exact hk r16 z15 tz15 oz15 (by omega)
      · subst er12
        have f_17 : 0 ≤ (gI z1 8).toInt ∧ (gI z1 8).toInt ≤ 4 := tz1.1 8
        have q_18 := (show (gI z1 8).toInt = (gI z 8).toInt by rw [ez1]; rfl)
        have f_19 : 0 ≤ (gI z 8).toInt ∧ (gI z 8).toInt ≤ 4 := ht.1 8
        refine ⟨fun hc => absurd hc (by decide), fun _ => ?_⟩
        have g_20 : (-2 : Int32).toInt = -2 := by decide
        refine s_X9_told ((-2 : Int32)) z1 _ tz1  (fun r18 z17 tz17 o_22 hp_21 => ?_)
        have oz17 : Same [0, 1] [5] z z17 := oz1.tr o_22 (by decide) (by decide)
        exact hk r18 z17 tz17 oz17 (by omega)
    · subst er9
      refine ⟨fun hc => absurd hc (by decide), fun _ => ?_⟩
      refine hK_5  ?_
      have g_25 : (-1 : Int32).toInt = -1 := by decide
      refine s_X9_told ((-1 : Int32)) z1 _ tz1  (fun r_23 z_24 tz_24 o_27 hp_26 => ?_)
      have oz_24 : Same [0, 1] [5] z z_24 := oz1.tr o_27 (by decide) (by decide)
      have f_28 : 0 ≤ (gI z 8).toInt ∧ (gI z 8).toInt ≤ 4 := ht.1 8
      exact hk r_23 z_24 tz_24 oz_24 (by omega)
  · subst er3
    intro K4 hK_29
    refine ⟨fun _ => ?_, fun hc => absurd (show ((0 : Int32)) = ((0 : Int32)) by decide) hc⟩
    refine hK_29  ?_
    have g_32 : (-1 : Int32).toInt = -1 := by decide
    refine s_X9_told ((-1 : Int32)) z1 _ tz1  (fun r_30 z_31 tz_31 o_34 hp_33 => ?_)
    have oz_31 : Same [0, 1] [5] z z_31 := oz1.tr o_34 (by decide) (by decide)
    have f_35 : 0 ≤ (gI z 8).toInt ∧ (gI z 8).toInt ≤ 4 := ht.1 8
    exact hk r_30 z_31 tz_31 oz_31 (by omega)

set_option maxHeartbeats 2000000 in
theorem s_X9_cable (b1 : Int32) (z : St) (P : Int32 → St → Prop) (ht : TM z)  (hk : ∀ (r : Int32) (z2 : St), TM z2 → Same [0, 1, 11] [] z z2 → (((b1.toInt < 0 ∨ 80000 < b1.toInt) ∧ r.toInt = -1 ∧ (gI z2 11).toInt = (gI z 11).toInt) ∨ ((0 ≤ b1.toInt ∧ b1.toInt ≤ 80000) ∧ r.toInt = (gI z 11).toInt ∧ (gI z2 11).toInt = b1.toInt)) → P r z2) : wp_X9_cable b1 z P := by
  unfold wp_X9_cable
  intro z1 ez1
  have tz1 : TM z1 := by rw [ez1]; exact Ty_wI ht trivial
  have oz1 : Same [0, 1, 11] [] z z1 := (Same.rf (z := z)).i (by decide) ez1
  have g_1 : (Int32.toInt64 b1).toInt = b1.toInt := (a_wide rfl)
  have g_2 : (0 : Int64).toInt = 0 := by decide
  have g_3 : (80000 : Int64).toInt = 80000 := by decide
  refine s_X9_in (Int32.toInt64 b1) ((0 : Int64)) ((80000 : Int64)) z1 _ tz1  (fun r3 hp_4 => ?_)
  rcases hp_4 with ⟨er3, hp_4⟩ | ⟨er3, hp_4⟩
  · subst er3
    refine ⟨fun _ => ?_, fun hc => absurd hc (by decide)⟩
    intro x5 ex5
    have q_5 := (show (gI z1 11).toInt = (gI z 11).toInt by rw [ez1]; rfl)
    have ix5 : x5.toInt = (gI z1 11).toInt := by rw [ex5]
    intro z6 ez6
    have tz6 : TM z6 := by rw [ez6]; exact Ty_wI tz1 trivial
    have oz6 : Same [0, 1, 11] [] z z6 := oz1.i (by decide) ez6
    refine s_X9_told x5 z6 _ tz6  (fun r8 z7 tz7 o_7 hp_6 => ?_)
    have oz7 : Same [0, 1, 11] [] z z7 := oz6.tr o_7 (by decide) (by decide)
    have q_8 := ((o_7.fi 11 (by decide))).trans (show (gI z6 11).toInt = b1.toInt by rw [ez6]; rfl)
    exact hk r8 z7 tz7 oz7 (by omega)
  · subst er3
    refine ⟨fun hc => absurd hc (by decide), fun _ => ?_⟩
    have g_9 : (-1 : Int32).toInt = -1 := by decide
    refine s_X9_told ((-1 : Int32)) z1 _ tz1  (fun r10 z9 tz9 o_11 hp_10 => ?_)
    have oz9 : Same [0, 1, 11] [] z z9 := oz1.tr o_11 (by decide) (by decide)
    have q_12 := ((o_11.fi 11 (by decide))).trans (show (gI z1 11).toInt = (gI z 11).toInt by rw [ez1]; rfl)
    exact hk r10 z9 tz9 oz9 (by omega)

