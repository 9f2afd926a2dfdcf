def okM (j : Nat) (x : Int32) : Prop := if j = 2 then 0 ≤ x.toInt ∧ x.toInt ≤ 167 else if j = 3 then 0 ≤ x.toInt ∧ x.toInt ≤ 400 else if j = 8 then 0 ≤ x.toInt ∧ x.toInt ≤ 4 else if j = 12 then 0 ≤ x.toInt ∧ x.toInt ≤ 16 else if j = 22 then 0 ≤ x.toInt ∧ x.toInt ≤ 20 else if j = 34 then 0 ≤ x.toInt ∧ x.toInt ≤ 20 else if j = 36 then 0 ≤ x.toInt ∧ x.toInt ≤ 300 else if j = 37 then 0 ≤ x.toInt ∧ x.toInt ≤ 300 else if j = 38 then 0 ≤ x.toInt ∧ x.toInt ≤ 300 else if j = 42 then 0 ≤ x.toInt ∧ x.toInt ≤ 1 else if j = 43 then 0 ≤ x.toInt ∧ x.toInt ≤ 6 else if j = 55 then 0 ≤ x.toInt ∧ x.toInt ≤ 48 else True
def okMF (j : Nat) (x : Int32) : Prop := if j = 1 then 0 ≤ x.toInt ∧ x.toInt ≤ 167 else if j = 6 then 0 ≤ x.toInt ∧ x.toInt ≤ 3 else if j = 7 then 0 ≤ x.toInt ∧ x.toInt ≤ 167 else if j = 8 then 0 ≤ x.toInt ∧ x.toInt ≤ 167 else if j = 9 then 0 ≤ x.toInt ∧ x.toInt ≤ 4 else if j = 18 then 0 ≤ x.toInt ∧ x.toInt ≤ 15 else if j = 26 then 0 ≤ x.toInt ∧ x.toInt ≤ 3 else if j = 27 then 0 ≤ x.toInt ∧ x.toInt ≤ 40 else if j = 28 then 0 ≤ x.toInt ∧ x.toInt ≤ 40 else if j = 29 then 0 ≤ x.toInt ∧ x.toInt ≤ 10 else if j = 30 then 0 ≤ x.toInt ∧ x.toInt ≤ 10 else if j = 31 then 0 ≤ x.toInt ∧ x.toInt ≤ 3 else True
abbrev TM (z : St) : Prop := Ty okM okMF z
def OM (z : St) : Int32 × Int32 × Int32 × Int32 × Int32 × Int32 × Int32 × Int32 × (Nat → Int32) × (Nat → Int32) × (Nat → Int32) := (gI z 36, gI z 8, gI z 11, gI z 7, gI z 3, gI z 43, gI z 12, gI z 2, gF z 1, gF z 2, gF z 3)
theorem lgc_lt {x y : Int64} : lg_cmp x y < 0 ↔ x.toInt < y.toInt := by
  unfold lg_cmp
  by_cases h : y < x
  · have := Int64.lt_iff_toInt_lt.mp h
    rw [if_pos h]
    constructor
    · intro q; exact absurd q (by decide)
    · intro q; omega
  · have h2 := Int64.le_iff_toInt_le.mp (Int64.not_lt.mp h)
    rw [if_neg h]
    by_cases e : x = y
    · subst e; simp
    · have h3 : x.toInt ≠ y.toInt := fun q => e (Int64.toInt_inj.mp q)
      rw [if_neg e]
      constructor
      · intro _; omega
      · intro _; decide
theorem lgc_gt {x y : Int64} : 0 < lg_cmp x y ↔ y.toInt < x.toInt := by
  unfold lg_cmp
  by_cases h : y < x
  · have := Int64.lt_iff_toInt_lt.mp h
    rw [if_pos h]
    constructor
    · intro _; omega
    · intro _; decide
  · have h2 := Int64.le_iff_toInt_le.mp (Int64.not_lt.mp h)
    rw [if_neg h]
    by_cases e : x = y
    · subst e; simp
    · rw [if_neg e]
      constructor
      · intro q; exact absurd q (by decide)
      · intro q; omega
theorem s_X9_in (b1 b2 b3 : Int64) (z : St) (P : Int32 → Prop) (ht : TM z) (hk : ∀ r : Int32, (r = 1 ∧ (b2.toInt ≤ b1.toInt ∧ b1.toInt ≤ b3.toInt)) ∨ (r = 0 ∧ (b1.toInt < b2.toInt ∨ b3.toInt < b1.toInt)) → P r) : wp_X9_in b1 b2 b3 z P := by
  unfold wp_X9_in
  refine ⟨fun c => hk 0 (Or.inr ⟨rfl, Or.inl (lgc_lt.mp c)⟩), fun c => ⟨fun c2 => hk 0 (Or.inr ⟨rfl, Or.inr (lgc_gt.mp c2)⟩), fun c2 => hk 1 (Or.inl ⟨rfl, ?_⟩)⟩⟩
  rw [lgc_lt] at c
  rw [lgc_gt] at c2
  omega

set_option maxHeartbeats 2000000 in
theorem s_X9_isHour (b1 : Int32) (z : St) (P : Int32 → Prop) (ht : TM z)  (hk : ∀ r : Int32, (r = 1 ∧ (0 ≤ b1.toInt ∧ b1.toInt ≤ 167)) ∨ (r = 0 ∧ (b1.toInt < 0 ∨ 167 < b1.toInt)) → P r) : wp_X9_isHour b1 z P := by
  unfold wp_X9_isHour
  have g_1 : (Int32.toInt64 b1).toInt = b1.toInt := (a_wide rfl)
  have g_2 : (0 : Int64).toInt = 0 := by decide
  have g_3 : (167 : Int64).toInt = 167 := by decide
  refine s_X9_in (Int32.toInt64 b1) ((0 : Int64)) ((167 : Int64)) z _ ht  (fun r2 hp_4 => ?_)
  rcases hp_4 with ⟨er2, hp_4⟩ | ⟨er2, hp_4⟩
  · subst er2
    have g_5 : (1 : Int32).toInt = 1 := by decide
    refine ⟨Or.inr rfl, ?_⟩
    exact hk ((1 : Int32)) (Or.inl ⟨rfl, (by omega)⟩)
  · subst er2
    have g_6 : (0 : Int32).toInt = 0 := by decide
    refine ⟨Or.inl rfl, ?_⟩
    exact hk ((0 : Int32)) (Or.inr ⟨rfl, (by omega)⟩)

set_option maxHeartbeats 2000000 in
theorem s_X9_told (b1 : Int32) (z : St) (P : Int32 → St → Prop) (ht : TM z)  (hk : ∀ (r : Int32) (z2 : St), TM z2 → Same [1] [] z z2 → (r.toInt = b1.toInt) → P r z2) : wp_X9_told b1 z P := by
  unfold wp_X9_told
  refine ⟨fun c1 => ?_, fun c1 => ?_⟩
  · skip
    have i_1 := i_le (show (0 : Int32).toInt = 0 by decide) rfl c1
    intro z2 ez2
    have tz2 : TM z2 := by rw [ez2]; exact Ty_wI ht trivial
    have oz2 : Same [1] [] z z2 := (Same.rf (z := z)).i (by decide) ez2
    exact hk b1 z2 tz2 oz2 (by omega)
  · skip
    have i_2 := i_nle (show (0 : Int32).toInt = 0 by decide) rfl c1
    intro z3 ez3
    have tz3 : TM z3 := by rw [ez3]; exact Ty_wI ht trivial
    have oz3 : Same [1] [] z z3 := (Same.rf (z := z)).i (by decide) ez3
    exact hk b1 z3 tz3 oz3 (by omega)

set_option maxHeartbeats 2000000 in
theorem s_X9_isKnown (b1 : Int32) (z : St) (P : Int32 → Prop) (ht : TM z)  (hk : ∀ r : Int32, (r = 1 ∧ (0 ≤ b1.toInt ∧ b1.toInt ≤ 1000)) ∨ (r = 0 ∧ (b1.toInt < 0 ∨ 1000 < b1.toInt)) → P r) : wp_X9_isKnown b1 z P := by
  unfold wp_X9_isKnown
  have g_1 : (Int32.toInt64 b1).toInt = b1.toInt := (a_wide rfl)
  have g_2 : (0 : Int64).toInt = 0 := by decide
  have g_3 : (1000 : Int64).toInt = 1000 := by decide
  refine s_X9_in (Int32.toInt64 b1) ((0 : Int64)) ((1000 : Int64)) z _ ht  (fun r2 hp_4 => ?_)
  rcases hp_4 with ⟨er2, hp_4⟩ | ⟨er2, hp_4⟩
  · subst er2
    have g_5 : (1 : Int32).toInt = 1 := by decide
    refine ⟨Or.inr rfl, ?_⟩
    exact hk ((1 : Int32)) (Or.inl ⟨rfl, (by omega)⟩)
  · subst er2
    have g_6 : (0 : Int32).toInt = 0 := by decide
    refine ⟨Or.inl rfl, ?_⟩
    exact hk ((0 : Int32)) (Or.inr ⟨rfl, (by omega)⟩)

set_option maxHeartbeats 2000000 in
theorem s_X9_price (b1 : Int32) (b2 : Int32) (b3 : Int32) (z : St) (P : Int32 → St → Prop) (ht : TM z)  (hk : ∀ (r : Int32) (z2 : St), TM z2 → Same [0, 1, 3, 21] [1, 2, 3] z z2 → (True) → P r z2) : wp_X9_price b1 b2 b3 z P := by
  unfold wp_X9_price
  intro z1 ez1
  have tz1 : TM z1 := by rw [ez1]; exact Ty_wI ht trivial
  have oz1 : Same [0, 1, 3, 21] [1, 2, 3] z z1 := (Same.rf (z := z)).i (by decide) ez1
  refine s_X9_isHour b1 z1 _ tz1  (fun r3 hp_1 => ?_)
  rcases hp_1 with ⟨er3, hp_1⟩ | ⟨er3, hp_1⟩
  · subst er3
    intro K4 hK_2
    refine ⟨fun hc => absurd hc (by decide), fun _ => ?_⟩
    have g_3 : (Int32.toInt64 b2).toInt = b2.toInt := (a_wide rfl)
    have g_4 : (-1000 : Int64).toInt = -1000 := by decide
    have g_5 : (10000 : Int64).toInt = 10000 := by decide
    refine s_X9_in (Int32.toInt64 b2) ((-1000 : Int64)) ((10000 : Int64)) z1 _ tz1  (fun r9 hp_6 => ?_)
    rcases hp_6 with ⟨er9, hp_6⟩ | ⟨er9, hp_6⟩
    · subst er9
      refine ⟨fun hc => absurd hc (by decide), fun _ => ?_⟩
      refine s_X9_isKnown b3 z1 _ tz1  (fun r12 hp_7 => ?_)
      rcases hp_7 with ⟨er12, hp_7⟩ | ⟨er12, hp_7⟩
      · subst er12
        refine ⟨fun _ => ?_, fun hc => absurd hc (by decide)⟩
        refine ⟨fun c14 => ?_, fun c14 => ?_⟩
        · skip
          have f_8 : 0 ≤ (gI z1 3).toInt ∧ (gI z1 3).toInt ≤ 400 := tz1.1 3
          have q_9 := (show (gI z1 3).toInt = (gI z 3).toInt by rw [ez1]; rfl)
          have f_10 : 0 ≤ (gI z 3).toInt ∧ (gI z 3).toInt ≤ 400 := ht.1 3
          have i_11 := i_ne rfl (show (400 : Int32).toInt = 400 by decide) c14
          refine ⟨vin rfl (by omega) (by omega), ?_⟩
          intro z15 ez15
          have tz15 : TM z15 := by rw [ez15]; exact Ty_wR tz1 (show 0 ≤ b1.toInt ∧ b1.toInt ≤ 167 from by omega)
          have oz15 : Same [0, 1, 3, 21] [1, 2, 3] z z15 := oz1.r (by decide) ez15
          have f_12 : 0 ≤ (gI z15 3).toInt ∧ (gI z15 3).toInt ≤ 400 := tz15.1 3
          have q_13 := ((show (gI z15 3).toInt = (gI z1 3).toInt by rw [ez15]; rfl)).trans (show (gI z1 3).toInt = (gI z 3).toInt by rw [ez1]; rfl)
          refine ⟨vin rfl (by omega) (by omega), ?_⟩
          intro z16 ez16
          have tz16 : TM z16 := by rw [ez16]; exact Ty_wR tz15 trivial
          have oz16 : Same [0, 1, 3, 21] [1, 2, 3] z z16 := oz15.r (by decide) ez16
          have f_14 : 0 ≤ (gI z16 3).toInt ∧ (gI z16 3).toInt ≤ 400 := tz16.1 3
          have q_15 := (((show (gI z16 3).toInt = (gI z15 3).toInt by rw [ez16]; rfl)).trans (show (gI z15 3).toInt = (gI z1 3).toInt by rw [ez15]; rfl)).trans (show (gI z1 3).toInt = (gI z 3).toInt by rw [ez1]; rfl)
          refine ⟨vin rfl (by omega) (by omega), ?_⟩
          intro z17 ez17
          have tz17 : TM z17 := by rw [ez17]; exact Ty_wR tz16 trivial
          have oz17 : Same [0, 1, 3, 21] [1, 2, 3] z z17 := oz16.r (by decide) ez17
          intro z18 ez18
          have f_16 : 0 ≤ (gI z17 3).toInt ∧ (gI z17 3).toInt ≤ 400 := tz17.1 3
          have q_17 := ((((show (gI z17 3).toInt = (gI z16 3).toInt by rw [ez17]; rfl)).trans (show (gI z16 3).toInt = (gI z15 3).toInt by rw [ez16]; rfl)).trans (show (gI z15 3).toInt = (gI z1 3).toInt by rw [ez15]; rfl)).trans (show (gI z1 3).toInt = (gI z 3).toInt by rw [ez1]; rfl)
          have tz18 : TM z18 := by rw [ez18]; exact Ty_wI tz17 (show 0 ≤ ((gI z17 3) + (1 : Int32)).toInt ∧ ((gI z17 3) + (1 : Int32)).toInt ≤ 400 from by rw [(a_add rfl (show (1 : Int32).toInt = 1 by decide) (by omega) (by omega))]; omega)
          have oz18 : Same [0, 1, 3, 21] [1, 2, 3] z z18 := oz17.i (by decide) ez18
          intro z19 ez19
          have tz19 : TM z19 := by rw [ez19]; exact Ty_wI tz18 trivial
          have oz19 : Same [0, 1, 3, 21] [1, 2, 3] z z19 := oz18.i (by decide) ez19
          have f_18 : 0 ≤ (gI z19 3).toInt ∧ (gI z19 3).toInt ≤ 400 := tz19.1 3
          have q_19 := ((show (gI z19 3).toInt = (gI z18 3).toInt by rw [ez19]; rfl)).trans (show (gI z18 3).toInt = ((gI z17 3) + (1 : Int32)).toInt by rw [ez18]; rfl)
          have q_20 : ((gI z17 3) + (1 : Int32)).toInt = ((gI z17 3).toInt + (1)) := (a_add rfl (show (1 : Int32).toInt = 1 by decide) (by omega) (by omega))
          refine s_X9_told (gI z19 3) z19 _ tz19  (fun r21 z20 tz20 o_22 hp_21 => ?_)
          have oz20 : Same [0, 1, 3, 21] [1, 2, 3] z z20 := oz19.tr o_22 (by decide) (by decide)
          exact hk r21 z20 tz20 oz20 trivial
        · skip
          have f_23 : 0 ≤ (gI z1 3).toInt ∧ (gI z1 3).toInt ≤ 400 := tz1.1 3
          have q_24 := (show (gI z1 3).toInt = (gI z 3).toInt by rw [ez1]; rfl)
          have f_25 : 0 ≤ (gI z 3).toInt ∧ (gI z 3).toInt ≤ 400 := ht.1 3
          have i_26 := i_eq rfl (show (400 : Int32).toInt = 400 by decide) c14
          have g_27 : (-5 : Int32).toInt = -5 := by decide
          refine s_X9_told ((-5 : Int32)) z1 _ tz1  (fun r23 z22 tz22 o_29 hp_28 => ?_)
          have oz22 : Same [0, 1, 3, 21] [1, 2, 3] z z22 := oz1.tr o_29 (by decide) (by decide)
          exact hk r23 z22 tz22 oz22 trivial
      · subst er12
        refine ⟨fun hc => absurd hc (by decide), fun _ => ?_⟩
        refine hK_2  ?_
        have g_32 : (-1 : Int32).toInt = -1 := by decide
        refine s_X9_told ((-1 : Int32)) z1 _ tz1  (fun r_30 z_31 tz_31 o_34 hp_33 => ?_)
        have oz_31 : Same [0, 1, 3, 21] [1, 2, 3] z z_31 := oz1.tr o_34 (by decide) (by decide)
        exact hk r_30 z_31 tz_31 oz_31 trivial
    · subst er9
      refine ⟨fun _ => ?_, fun hc => absurd (show ((0 : Int32)) = ((0 : Int32)) by decide) hc⟩
      refine hK_2  ?_
      have g_37 : (-1 : Int32).toInt = -1 := by decide
      refine s_X9_told ((-1 : Int32)) z1 _ tz1  (fun r_35 z_36 tz_36 o_39 hp_38 => ?_)
      have oz_36 : Same [0, 1, 3, 21] [1, 2, 3] z z_36 := oz1.tr o_39 (by decide) (by decide)
      exact hk r_35 z_36 tz_36 oz_36 trivial
  · subst er3
    intro K4 hK_40
    refine ⟨fun _ => ?_, fun hc => absurd (show ((0 : Int32)) = ((0 : Int32)) by decide) hc⟩
    refine hK_40  ?_
    have g_43 : (-1 : Int32).toInt = -1 := by decide
    refine s_X9_told ((-1 : Int32)) z1 _ tz1  (fun r_41 z_42 tz_42 o_45 hp_44 => ?_)
    have oz_42 : Same [0, 1, 3, 21] [1, 2, 3] z z_42 := oz1.tr o_45 (by decide) (by decide)
    exact hk r_41 z_42 tz_42 oz_42 trivial

set_option maxHeartbeats 2000000 in
theorem s_X9_plain (b1 : Int32) (z : St) (P : Int32 → St → Prop) (ht : TM z)  (hk : ∀ (r : Int32) (z2 : St), TM z2 → Same [0, 1, 7, 21] [] z z2 → (True) → P r z2) : wp_X9_plain b1 z P := by
  unfold wp_X9_plain
  intro z1 ez1
  have tz1 : TM z1 := by rw [ez1]; exact Ty_wI ht trivial
  have oz1 : Same [0, 1, 7, 21] [] z z1 := (Same.rf (z := z)).i (by decide) ez1
  have g_1 : (Int32.toInt64 b1).toInt = b1.toInt := (a_wide rfl)
  have g_2 : (-1000 : Int64).toInt = -1000 := by decide
  have g_3 : (10000 : Int64).toInt = 10000 := by decide
  refine s_X9_in (Int32.toInt64 b1) ((-1000 : Int64)) ((10000 : Int64)) z1 _ tz1  (fun r3 hp_4 => ?_)
  rcases hp_4 with ⟨er3, hp_4⟩ | ⟨er3, hp_4⟩
  · subst er3
    refine ⟨fun _ => ?_, fun hc => absurd hc (by decide)⟩
    intro x5 ex5
    have q_5 := (show (gI z1 7).toInt = (gI z 7).toInt by rw [ez1]; rfl)
    have ix5 : x5.toInt = (gI z1 7).toInt := by rw [ex5]
    intro z6 ez6
    have tz6 : TM z6 := by rw [ez6]; exact Ty_wI tz1 trivial
    have oz6 : Same [0, 1, 7, 21] [] z z6 := oz1.i (by decide) ez6
    intro z7 ez7
    have tz7 : TM z7 := by rw [ez7]; exact Ty_wI tz6 trivial
    have oz7 : Same [0, 1, 7, 21] [] z z7 := oz6.i (by decide) ez7
    intro z8 ez8
    have tz8 : TM z8 := by rw [ez8]; exact Ty_wI tz7 trivial
    have oz8 : Same [0, 1, 7, 21] [] z z8 := oz7.i (by decide) ez8
    exact hk x5 z8 tz8 oz8 trivial
  · subst er3
    refine ⟨fun hc => absurd hc (by decide), fun _ => ?_⟩
    intro z9 ez9
    have tz9 : TM z9 := by rw [ez9]; exact Ty_wI tz1 trivial
    have oz9 : Same [0, 1, 7, 21] [] z z9 := oz1.i (by decide) ez9
    have g_6 : (-5000 : Int32).toInt = -5000 := by decide
    exact hk ((-5000 : Int32)) z9 tz9 oz9 trivial

set_option maxHeartbeats 2000000 in
theorem s_X9_priceOf (b1 : Int32) (b2 : Int32) (z : St) (P : Int32 → Prop) (ht : TM z)  (hk : ∀ r : Int32, True → P r) : wp_X9_priceOf b1 b2 z P := by
  unfold wp_X9_priceOf
  intro x1 ex1
  have ix1 : x1.toInt = (gI z 7).toInt := by rw [ex1]
  intro K4 hK_1
  have L_2 : ∀ (n : Nat) (v2 : Int32) (v3 : Int32), (0 ≤ v3.toInt) → (v3.toInt ≤ 400) → (400 - v3.toInt).toNat < n → K4 v2 v3 := by
    intro n
    induction n with
    | zero => intro v2 v3 w_3 w_4 m_6; omega
    | succ n ih_5 =>
      intro v2 v3 w_3 w_4 m_6
      refine hK_1 v2 v3 ?_
      refine ⟨fun c5 => ?_, fun c5 => ?_⟩
      · skip
        have f_7 : 0 ≤ (gI z 3).toInt ∧ (gI z 3).toInt ≤ 400 := ht.1 3
        have i_8 := i_le rfl rfl c5
        exact hk v2 trivial
      · skip
        have f_9 : 0 ≤ (gI z 3).toInt ∧ (gI z 3).toInt ≤ 400 := ht.1 3
        have i_10 := i_nle rfl rfl c5
        refine ⟨vin rfl (by omega) (by omega), ?_⟩
        intro K7 hK_11
        intro K9 hK_12
        refine ⟨fun c10 => ?_, fun c10 => ?_⟩
        · skip
          have f_13 : 0 ≤ (gF z 1 v3.toNatClampNeg).toInt ∧ (gF z 1 v3.toNatClampNeg).toInt ≤ 167 := ht.2 1 _
          have i_14 := i_ne rfl rfl c10
          refine hK_12  ?_
          refine hK_11 v2 ?_
          intro y_15 ey_15
          have iy_15 : y_15.toInt = (v3.toInt + (1)) := by rw [ey_15]; exact (a_add rfl (show (1 : Int32).toInt = 1 by decide) (by omega) (by omega))
          exact ih_5 v2 y_15 (by omega) (by omega) (by omega)
        · skip
          have f_16 : 0 ≤ (gF z 1 v3.toNatClampNeg).toInt ∧ (gF z 1 v3.toNatClampNeg).toInt ≤ 167 := ht.2 1 _
          have i_17 := i_eq rfl rfl c10
          refine ⟨vin rfl (by omega) (by omega), ?_⟩
          refine ⟨fun c11 => ?_, fun c11 => ?_⟩
          · skip
            have i_18 := i_lt rfl rfl c11
            refine hK_12  ?_
            refine hK_11 v2 ?_
            intro y_19 ey_19
            have iy_19 : y_19.toInt = (v3.toInt + (1)) := by rw [ey_19]; exact (a_add rfl (show (1 : Int32).toInt = 1 by decide) (by omega) (by omega))
            exact ih_5 v2 y_19 (by omega) (by omega) (by omega)
          · skip
            have i_20 := i_nlt rfl rfl c11
            refine ⟨vin rfl (by omega) (by omega), ?_⟩
            refine hK_11 ((gF z 2 v3.toNatClampNeg)) ?_
            intro y_21 ey_21
            have iy_21 : y_21.toInt = (v3.toInt + (1)) := by rw [ey_21]; exact (a_add rfl (show (1 : Int32).toInt = 1 by decide) (by omega) (by omega))
            exact ih_5 ((gF z 2 v3.toNatClampNeg)) y_21 (by omega) (by omega) (by omega)
  have g_22 : (0 : Int32).toInt = 0 := by decide
  exact L_2 ((400 - (0 : Int32).toInt).toNat + 1) x1 ((0 : Int32)) (by omega) (by omega) (by omega)

set_option maxHeartbeats 2000000 in
theorem s_X9_at (b1 : Int32) (b2 : Int32) (z : St) (P : Int32 → St → Prop) (ht : TM z)  (hk : ∀ (r : Int32) (z2 : St), TM z2 → Same [0] [] z z2 → (True) → P r z2) : wp_X9_at b1 b2 z P := by
  unfold wp_X9_at
  intro z1 ez1
  have tz1 : TM z1 := by rw [ez1]; exact Ty_wI ht trivial
  have oz1 : Same [0] [] z z1 := (Same.rf (z := z)).i (by decide) ez1
  refine s_X9_isHour b1 z1 _ tz1  (fun r3 hp_1 => ?_)
  rcases hp_1 with ⟨er3, hp_1⟩ | ⟨er3, hp_1⟩
  · subst er3
    refine ⟨fun hc => absurd hc (by decide), fun _ => ?_⟩
    refine s_X9_isKnown b2 z1 _ tz1  (fun r6 hp_2 => ?_)
    rcases hp_2 with ⟨er6, hp_2⟩ | ⟨er6, hp_2⟩
    · subst er6
      refine ⟨fun hc => absurd hc (by decide), fun _ => ?_⟩
      refine s_X9_priceOf b1 b2 z1 _ tz1  (fun r9 hp_3 => ?_)
      exact hk r9 z1 tz1 oz1 trivial
    · subst er6
      refine ⟨fun _ => ?_, fun hc => absurd (show ((0 : Int32)) = ((0 : Int32)) by decide) hc⟩
      have g_4 : (-5000 : Int32).toInt = -5000 := by decide
      exact hk ((-5000 : Int32)) z1 tz1 oz1 trivial
  · subst er3
    refine ⟨fun _ => ?_, fun hc => absurd (show ((0 : Int32)) = ((0 : Int32)) by decide) hc⟩
    have g_5 : (-5000 : Int32).toInt = -5000 := by decide
    exact hk ((-5000 : Int32)) z1 tz1 oz1 trivial

set_option maxHeartbeats 2000000 in
theorem s_X9_home (b1 : Int32) (z : St) (P : Int32 → St → Prop) (ht : TM z)  (hk : ∀ (r : Int32) (z2 : St), TM z2 → Same [0, 1, 8] [4] z z2 → (True) → P r z2) : wp_X9_home b1 z P := by
  unfold wp_X9_home
  intro z1 ez1
  have tz1 : TM z1 := by rw [ez1]; exact Ty_wI ht trivial
  have oz1 : Same [0, 1, 8] [4] z z1 := (Same.rf (z := z)).i (by decide) ez1
  have g_1 : (Int32.toInt64 b1).toInt = b1.toInt := (a_wide rfl)
  have g_2 : (0 : Int64).toInt = 0 := by decide
  have g_3 : (20000 : Int64).toInt = 20000 := by decide
  refine s_X9_in (Int32.toInt64 b1) ((0 : Int64)) ((20000 : Int64)) z1 _ tz1  (fun r3 hp_4 => ?_)
  rcases hp_4 with ⟨er3, hp_4⟩ | ⟨er3, hp_4⟩
  · subst er3
    refine ⟨fun _ => ?_, fun hc => absurd hc (by decide)⟩
    refine ⟨fun c5 => ?_, fun c5 => ?_⟩
    · skip
      have f_5 : 0 ≤ (gI z1 8).toInt ∧ (gI z1 8).toInt ≤ 4 := tz1.1 8
      have q_6 := (show (gI z1 8).toInt = (gI z 8).toInt by rw [ez1]; rfl)
      have f_7 : 0 ≤ (gI z 8).toInt ∧ (gI z 8).toInt ≤ 4 := ht.1 8
      have i_8 := i_ne rfl (show (4 : Int32).toInt = 4 by decide) c5
      refine ⟨vin rfl (by omega) (by omega), ?_⟩
      intro z6 ez6
      have tz6 : TM z6 := by rw [ez6]; exact Ty_wR tz1 trivial
      have oz6 : Same [0, 1, 8] [4] z z6 := oz1.r (by decide) ez6
      intro z7 ez7
      have f_9 : 0 ≤ (gI z6 8).toInt ∧ (gI z6 8).toInt ≤ 4 := tz6.1 8
      have q_10 := ((show (gI z6 8).toInt = (gI z1 8).toInt by rw [ez6]; rfl)).trans (show (gI z1 8).toInt = (gI z 8).toInt by rw [ez1]; rfl)
      have tz7 : TM z7 := by rw [ez7]; exact Ty_wI tz6 (show 0 ≤ ((gI z6 8) + (1 : Int32)).toInt ∧ ((gI z6 8) + (1 : Int32)).toInt ≤ 4 from by rw [(a_add rfl (show (1 : Int32).toInt = 1 by decide) (by omega) (by omega))]; omega)
      have oz7 : Same [0, 1, 8] [4] z z7 := oz6.i (by decide) ez7
      have f_11 : 0 ≤ (gI z7 8).toInt ∧ (gI z7 8).toInt ≤ 4 := tz7.1 8
      have q_12 := (show (gI z7 8).toInt = ((gI z6 8) + (1 : Int32)).toInt by rw [ez7]; rfl)
      have q_13 : ((gI z6 8) + (1 : Int32)).toInt = ((gI z6 8).toInt + (1)) := (a_add rfl (show (1 : Int32).toInt = 1 by decide) (by omega) (by omega))
      have g_14 : ((gI z7 8) - (1 : Int32)).toInt = ((gI z7 8).toInt - (1)) := (a_sub rfl (show (1 : Int32).toInt = 1 by decide) (by omega) (by omega))
      refine s_X9_told ((gI z7 8) - ((1 : Int32))) z7 _ tz7  (fun r9 z8 tz8 o_16 hp_15 => ?_)
      have oz8 : Same [0, 1, 8] [4] z z8 := oz7.tr o_16 (by decide) (by decide)
      exact hk r9 z8 tz8 oz8 trivial
    · skip
      have f_17 : 0 ≤ (gI z1 8).toInt ∧ (gI z1 8).toInt ≤ 4 := tz1.1 8
      have q_18 := (show (gI z1 8).toInt = (gI z 8).toInt by rw [ez1]; rfl)
      have f_19 : 0 ≤ (gI z 8).toInt ∧ (gI z 8).toInt ≤ 4 := ht.1 8
      have i_20 := i_eq rfl (show (4 : Int32).toInt = 4 by decide) c5
      have g_21 : (-5 : Int32).toInt = -5 := by decide
      refine s_X9_told ((-5 : Int32)) z1 _ tz1  (fun r11 z10 tz10 o_23 hp_22 => ?_)
      have oz10 : Same [0, 1, 8] [4] z z10 := oz1.tr o_23 (by decide) (by decide)
      exact hk r11 z10 tz10 oz10 trivial
  · subst er3
    refine ⟨fun hc => absurd hc (by decide), fun _ => ?_⟩
    have g_24 : (-1 : Int32).toInt = -1 := by decide
    refine s_X9_told ((-1 : Int32)) z1 _ tz1  (fun r13 z12 tz12 o_26 hp_25 => ?_)
    have oz12 : Same [0, 1, 8] [4] z z12 := oz1.tr o_26 (by decide) (by decide)
    exact hk r13 z12 tz12 oz12 trivial

set_option maxHeartbeats 2000000 in
theorem s_X9_isHome (b1 : Int32) (z : St) (P : Int32 → Prop) (ht : TM z)  (hk : ∀ r : Int32, (r = 1 ∧ (0 ≤ b1.toInt ∧ b1.toInt < (gI z 8).toInt)) ∨ (r = 0 ∧ (b1.toInt < 0 ∨ (gI z 8).toInt ≤ b1.toInt)) → P r) : wp_X9_isHome b1 z P := by
  unfold wp_X9_isHome
  have g_1 : (Int32.toInt64 b1).toInt = b1.toInt := (a_wide rfl)
  have g_2 : (0 : Int64).toInt = 0 := by decide
  have f_3 : 0 ≤ (gI z 8).toInt ∧ (gI z 8).toInt ≤ 4 := ht.1 8
  have g_4 : ((Int32.toInt64 (gI z 8)) - (1 : Int64)).toInt = ((gI z 8).toInt - (1)) := (a_subL (a_wide rfl) (show (1 : Int64).toInt = 1 by decide) (by omega) (by omega))
  refine s_X9_in (Int32.toInt64 b1) ((0 : Int64)) ((Int32.toInt64 (gI z 8)) - ((1 : Int64))) z _ ht  (fun r2 hp_5 => ?_)
  rcases hp_5 with ⟨er2, hp_5⟩ | ⟨er2, hp_5⟩
  · subst er2
    have g_6 : (1 : Int32).toInt = 1 := by decide
    refine ⟨Or.inr rfl, ?_⟩
    exact hk ((1 : Int32)) (Or.inl ⟨rfl, (by omega)⟩)
  · subst er2
    have g_7 : (0 : Int32).toInt = 0 := by decide
    refine ⟨Or.inl rfl, ?_⟩
    exact hk ((0 : Int32)) (Or.inr ⟨rfl, (by omega)⟩)

set_option maxHeartbeats 2000000 in
theorem s_X9_base (b1 : Int32) (b2 : Int32) (b3 : Int32) (z : St) (P : Int32 → St → Prop) (ht : TM z)  (hk : ∀ (r : Int32) (z2 : St), TM z2 → Same [0, 1] [5] z z2 → (True) → P r z2) : wp_X9_base b1 b2 b3 z P := by
  unfold wp_X9_base
  intro z1 ez1
  have tz1 : TM z1 := by rw [ez1]; exact Ty_wI ht trivial
  have oz1 : Same [0, 1] [5] z z1 := (Same.rf (z := z)).i (by decide) ez1
  have g_1 : (Int32.toInt64 b2).toInt = b2.toInt := (a_wide rfl)
  have g_2 : (0 : Int64).toInt = 0 := by decide
  have g_3 : (23 : Int64).toInt = 23 := by decide
  refine s_X9_in (Int32.toInt64 b2) ((0 : Int64)) ((23 : Int64)) z1 _ tz1  (fun r3 hp_4 => ?_)
  rcases hp_4 with ⟨er3, hp_4⟩ | ⟨er3, hp_4⟩
  · subst er3
    intro K4 hK_5
    refine ⟨fun hc => absurd hc (by decide), fun _ => ?_⟩
    have g_6 : (Int32.toInt64 b3).toInt = b3.toInt := (a_wide rfl)
    have g_7 : (0 : Int64).toInt = 0 := by decide
    have g_8 : (5000 : Int64).toInt = 5000 := by decide
    refine s_X9_in (Int32.toInt64 b3) ((0 : Int64)) ((5000 : Int64)) z1 _ tz1  (fun r9 hp_9 => ?_)
    rcases hp_9 with ⟨er9, hp_9⟩ | ⟨er9, hp_9⟩
    · subst er9
      refine ⟨fun _ => ?_, fun hc => absurd hc (by decide)⟩
      refine s_X9_isHome b1 z1 _ tz1  (fun r12 hp_10 => ?_)
      rcases hp_10 with ⟨er12, hp_10⟩ | ⟨er12, hp_10⟩
      · subst er12
        have f_11 : 0 ≤ (gI z1 8).toInt ∧ (gI z1 8).toInt ≤ 4 := tz1.1 8
        have q_12 := (show (gI z1 8).toInt = (gI z 8).toInt by rw [ez1]; rfl)
        have f_13 : 0 ≤ (gI z 8).toInt ∧ (gI z 8).toInt ≤ 4 := ht.1 8
        refine ⟨fun _ => ?_, fun hc => absurd hc (by decide)⟩
        refine ⟨vin (a_add (a_mul (show (24 : Int32).toInt = 24 by decide) rfl (by omega) (by omega)) rfl (by omega) (by omega)) (by omega) (by omega), ?_⟩
        intro z14 ez14
        have tz14 : TM z14 := by rw [ez14]; exact Ty_wR tz1 trivial
        have oz14 : Same [0, 1] [5] z z14 := oz1.r (by decide) ez14
        have g_14 : (0 : Int32).toInt = 0 := by decide
        refine s_X9_told ((0 : Int32)) z14 _ tz14  (fun r16 z15 tz15 o_16 hp_15 => ?_)
        have oz15 : Same [0, 1] [5] z z15 := oz14.tr o_16 (by decide) (by decide)
        exact hk r16 z15 tz15 oz15 trivial
      · subst er12
        have f_17 : 0 ≤ (gI z1 8).toInt ∧ (gI z1 8).toInt ≤ 4 := tz1.1 8
        have q_18 := (show (gI z1 8).toInt = (gI z 8).toInt by rw [ez1]; rfl)
        have f_19 : 0 ≤ (gI z 8).toInt ∧ (gI z 8).toInt ≤ 4 := ht.1 8
        refine ⟨fun hc => absurd hc (by decide), fun _ => ?_⟩
        have g_20 : (-2 : Int32).toInt = -2 := by decide
        refine s_X9_told ((-2 : Int32)) z1 _ tz1  (fun r18 z17 tz17 o_22 hp_21 => ?_)
        have oz17 : Same [0, 1] [5] z z17 := oz1.tr o_22 (by decide) (by decide)
        exact hk r18 z17 tz17 oz17 trivial
    · subst er9
      refine ⟨fun hc => absurd hc (by decide), fun _ => ?_⟩
      refine hK_5  ?_
      have g_25 : (-1 : Int32).toInt = -1 := by decide
      refine s_X9_told ((-1 : Int32)) z1 _ tz1  (fun r_23 z_24 tz_24 o_27 hp_26 => ?_)
      have oz_24 : Same [0, 1] [5] z z_24 := oz1.tr o_27 (by decide) (by decide)
      exact hk r_23 z_24 tz_24 oz_24 trivial
  · subst er3
    intro K4 hK_28
    refine ⟨fun _ => ?_, fun hc => absurd (show ((0 : Int32)) = ((0 : Int32)) by decide) hc⟩
    refine hK_28  ?_
    have g_31 : (-1 : Int32).toInt = -1 := by decide
    refine s_X9_told ((-1 : Int32)) z1 _ tz1  (fun r_29 z_30 tz_30 o_33 hp_32 => ?_)
    have oz_30 : Same [0, 1] [5] z z_30 := oz1.tr o_33 (by decide) (by decide)
    exact hk r_29 z_30 tz_30 oz_30 trivial

set_option maxHeartbeats 2000000 in
theorem s_X9_cable (b1 : Int32) (z : St) (P : Int32 → St → Prop) (ht : TM z)  (hk : ∀ (r : Int32) (z2 : St), TM z2 → Same [0, 1, 11] [] z z2 → (True) → P r z2) : wp_X9_cable b1 z P := by
  unfold wp_X9_cable
  intro z1 ez1
  have tz1 : TM z1 := by rw [ez1]; exact Ty_wI ht trivial
  have oz1 : Same [0, 1, 11] [] z z1 := (Same.rf (z := z)).i (by decide) ez1
  have g_1 : (Int32.toInt64 b1).toInt = b1.toInt := (a_wide rfl)
  have g_2 : (0 : Int64).toInt = 0 := by decide
  have g_3 : (80000 : Int64).toInt = 80000 := by decide
  refine s_X9_in (Int32.toInt64 b1) ((0 : Int64)) ((80000 : Int64)) z1 _ tz1  (fun r3 hp_4 => ?_)
  rcases hp_4 with ⟨er3, hp_4⟩ | ⟨er3, hp_4⟩
  · subst er3
    refine ⟨fun _ => ?_, fun hc => absurd hc (by decide)⟩
    intro x5 ex5
    have q_5 := (show (gI z1 11).toInt = (gI z 11).toInt by rw [ez1]; rfl)
    have ix5 : x5.toInt = (gI z1 11).toInt := by rw [ex5]
    intro z6 ez6
    have tz6 : TM z6 := by rw [ez6]; exact Ty_wI tz1 trivial
    have oz6 : Same [0, 1, 11] [] z z6 := oz1.i (by decide) ez6
    refine s_X9_told x5 z6 _ tz6  (fun r8 z7 tz7 o_7 hp_6 => ?_)
    have oz7 : Same [0, 1, 11] [] z z7 := oz6.tr o_7 (by decide) (by decide)
    exact hk r8 z7 tz7 oz7 trivial
  · subst er3
    refine ⟨fun hc => absurd hc (by decide), fun _ => ?_⟩
    have g_8 : (-1 : Int32).toInt = -1 := by decide
    refine s_X9_told ((-1 : Int32)) z1 _ tz1  (fun r10 z9 tz9 o_10 hp_9 => ?_)
    have oz9 : Same [0, 1, 11] [] z z9 := oz1.tr o_10 (by decide) (by decide)
    exact hk r10 z9 tz9 oz9 trivial

set_option maxHeartbeats 2000000 in
theorem s_X9_job (b1 : Int32) (b2 : Int32) (b3 : Int32) (b4 : Int32) (b5 : Int32) (b6 : Int32) (b7 : Int32) (b8 : Int32) (z : St) (P : Int32 → St → Prop) (ht : TM z)  (hk : ∀ (r : Int32) (z2 : St), TM z2 → Same [0, 1, 12] [6, 7, 8, 9, 10, 11, 12] z z2 → (True) → P r z2) : wp_X9_job b1 b2 b3 b4 b5 b6 b7 b8 z P := by
  unfold wp_X9_job
  intro z1 ez1
  have tz1 : TM z1 := by rw [ez1]; exact Ty_wI ht trivial
  have oz1 : Same [0, 1, 12] [6, 7, 8, 9, 10, 11, 12] z z1 := (Same.rf (z := z)).i (by decide) ez1
  refine s_X9_isHour b2 z1 _ tz1  (fun r3 hp_1 => ?_)
  rcases hp_1 with ⟨er3, hp_1⟩ | ⟨er3, hp_1⟩
  · subst er3
    intro K5 hK_2
    intro K49 hK_3
    refine ⟨fun hc => absurd hc (by decide), fun _ => ?_⟩
    refine s_X9_isHour b3 z1 _ tz1  (fun r52 hp_4 => ?_)
    rcases hp_4 with ⟨er52, hp_4⟩ | ⟨er52, hp_4⟩
    · subst er52
      refine ⟨fun hc => absurd hc (by decide), fun _ => ?_⟩
      refine ⟨fun c54 => ?_, fun c54 => ?_⟩
      · skip
        have i_5 := i_lt rfl rfl c54
        refine hK_3  ?_
        refine hK_2 ((0 : Int32)) ?_
        intro K_6 hK_45
        intro K_31 hK_46
        refine ⟨fun _ => ?_, fun hc => absurd (show ((0 : Int32)) = ((0 : Int32)) by decide) hc⟩
        refine hK_46  ?_
        refine hK_45 ((0 : Int32)) ?_
        refine ⟨fun hc => absurd hc (by decide), fun _ => ?_⟩
        have g_70 : (-1 : Int32).toInt = -1 := by decide
        refine s_X9_told ((-1 : Int32)) z1 _ tz1  (fun r_68 z_69 tz_69 o_72 hp_71 => ?_)
        have oz_69 : Same [0, 1, 12] [6, 7, 8, 9, 10, 11, 12] z z_69 := oz1.tr o_72 (by decide) (by decide)
        exact hk r_68 z_69 tz_69 oz_69 trivial
      · skip
        have i_73 := i_nlt rfl rfl c54
        refine ⟨fun c55 => ?_, fun c55 => ?_⟩
        · skip
          have i_74 := i_lt (show (23 : Int32).toInt = 23 by decide) (a_sub rfl rfl (by omega) (by omega)) c55
          refine hK_3  ?_
          refine hK_2 ((0 : Int32)) ?_
          intro K_75 hK_114
          intro K_100 hK_115
          refine ⟨fun _ => ?_, fun hc => absurd (show ((0 : Int32)) = ((0 : Int32)) by decide) hc⟩
          refine hK_115  ?_
          refine hK_114 ((0 : Int32)) ?_
          refine ⟨fun hc => absurd hc (by decide), fun _ => ?_⟩
          have g_139 : (-1 : Int32).toInt = -1 := by decide
          refine s_X9_told ((-1 : Int32)) z1 _ tz1  (fun r_137 z_138 tz_138 o_141 hp_140 => ?_)
          have oz_138 : Same [0, 1, 12] [6, 7, 8, 9, 10, 11, 12] z z_138 := oz1.tr o_141 (by decide) (by decide)
          exact hk r_137 z_138 tz_138 oz_138 trivial
        · skip
          have i_142 := i_nlt (show (23 : Int32).toInt = 23 by decide) (a_sub rfl rfl (by omega) (by omega)) c55
          have g_143 : (Int32.toInt64 b4).toInt = b4.toInt := (a_wide rfl)
          have g_144 : (1 : Int64).toInt = 1 := by decide
          have g_145 : (4 : Int64).toInt = 4 := by decide
          refine s_X9_in (Int32.toInt64 b4) ((1 : Int64)) ((4 : Int64)) z1 _ tz1  (fun r57 hp_146 => ?_)
          rcases hp_146 with ⟨er57, hp_146⟩ | ⟨er57, hp_146⟩
          · subst er57
            refine ⟨fun hc => absurd hc (by decide), fun _ => ?_⟩
            have g_147 : (Int32.toInt64 b5).toInt = b5.toInt := (a_wide rfl)
            have g_148 : (0 : Int64).toInt = 0 := by decide
            have g_149 : (5000 : Int64).toInt = 5000 := by decide
            refine s_X9_in (Int32.toInt64 b5) ((0 : Int64)) ((5000 : Int64)) z1 _ tz1  (fun r60 hp_150 => ?_)
            rcases hp_150 with ⟨er60, hp_150⟩ | ⟨er60, hp_150⟩
            · subst er60
              refine ⟨fun hc => absurd hc (by decide), fun _ => ?_⟩
              refine hK_2 ((1 : Int32)) ?_
              intro K_151 hK_190
              intro K_176 hK_191
              refine ⟨fun hc => absurd hc (by decide), fun _ => ?_⟩
              intro K_178 hK_192
              refine ⟨fun c_187 => ?_, fun c_187 => ?_⟩
              · skip
                have i_193 := i_lt rfl (show (2 : Int32).toInt = 2 by decide) c_187
                refine hK_192  ?_
                intro K_194 hK_202
                refine ⟨fun c_199 => ?_, fun c_199 => ?_⟩
                · skip
                  have i_203 := i_lt rfl (show (3 : Int32).toInt = 3 by decide) c_199
                  refine hK_202  ?_
                  intro K_204 hK_208
                  refine ⟨fun c_205 => ?_, fun c_205 => ?_⟩
                  · skip
                    have i_209 := i_lt rfl (show (4 : Int32).toInt = 4 by decide) c_205
                    refine hK_208  ?_
                    refine hK_190 ((1 : Int32)) ?_
                    refine ⟨fun _ => ?_, fun hc => absurd hc (by decide)⟩
                    refine s_X9_isHome b1 z1 _ tz1  (fun r_211 hp_233 => ?_)
                    rcases hp_233 with ⟨er_211, hp_233⟩ | ⟨er_211, hp_233⟩
                    · subst er_211
                      have f_234 : 0 ≤ (gI z1 8).toInt ∧ (gI z1 8).toInt ≤ 4 := tz1.1 8
                      have q_235 := (show (gI z1 8).toInt = (gI z 8).toInt by rw [ez1]; rfl)
                      have f_236 : 0 ≤ (gI z 8).toInt ∧ (gI z 8).toInt ≤ 4 := ht.1 8
                      refine ⟨fun _ => ?_, fun hc => absurd hc (by decide)⟩
                      refine ⟨fun c_213 => ?_, fun c_213 => ?_⟩
                      · skip
                        have f_237 : 0 ≤ (gI z1 12).toInt ∧ (gI z1 12).toInt ≤ 16 := tz1.1 12
                        have q_238 := (show (gI z1 12).toInt = (gI z 12).toInt by rw [ez1]; rfl)
                        have f_239 : 0 ≤ (gI z 12).toInt ∧ (gI z 12).toInt ≤ 16 := ht.1 12
                        have i_240 := i_ne rfl (show (16 : Int32).toInt = 16 by decide) c_213
                        refine ⟨vin rfl (by omega) (by omega), ?_⟩
                        intro z_214 ez_214
                        have tz_214 : TM z_214 := by rw [ez_214]; exact Ty_wR tz1 (show 0 ≤ b1.toInt ∧ b1.toInt ≤ 3 from by omega)
                        have oz_214 : Same [0, 1, 12] [6, 7, 8, 9, 10, 11, 12] z z_214 := oz1.r (by decide) ez_214
                        have f_241 : 0 ≤ (gI z_214 12).toInt ∧ (gI z_214 12).toInt ≤ 16 := tz_214.1 12
                        have q_242 := ((show (gI z_214 12).toInt = (gI z1 12).toInt by rw [ez_214]; rfl)).trans (show (gI z1 12).toInt = (gI z 12).toInt by rw [ez1]; rfl)
                        refine ⟨vin rfl (by omega) (by omega), ?_⟩
                        intro z_215 ez_215
                        have tz_215 : TM z_215 := by rw [ez_215]; exact Ty_wR tz_214 (show 0 ≤ b2.toInt ∧ b2.toInt ≤ 167 from by omega)
                        have oz_215 : Same [0, 1, 12] [6, 7, 8, 9, 10, 11, 12] z z_215 := oz_214.r (by decide) ez_215
                        have f_243 : 0 ≤ (gI z_215 12).toInt ∧ (gI z_215 12).toInt ≤ 16 := tz_215.1 12
                        have q_244 := (((show (gI z_215 12).toInt = (gI z_214 12).toInt by rw [ez_215]; rfl)).trans (show (gI z_214 12).toInt = (gI z1 12).toInt by rw [ez_214]; rfl)).trans (show (gI z1 12).toInt = (gI z 12).toInt by rw [ez1]; rfl)
                        refine ⟨vin rfl (by omega) (by omega), ?_⟩
                        intro z_216 ez_216
                        have tz_216 : TM z_216 := by rw [ez_216]; exact Ty_wR tz_215 (show 0 ≤ b3.toInt ∧ b3.toInt ≤ 167 from by omega)
                        have oz_216 : Same [0, 1, 12] [6, 7, 8, 9, 10, 11, 12] z z_216 := oz_215.r (by decide) ez_216
                        have f_245 : 0 ≤ (gI z_216 12).toInt ∧ (gI z_216 12).toInt ≤ 16 := tz_216.1 12
                        have q_246 := ((((show (gI z_216 12).toInt = (gI z_215 12).toInt by rw [ez_216]; rfl)).trans (show (gI z_215 12).toInt = (gI z_214 12).toInt by rw [ez_215]; rfl)).trans (show (gI z_214 12).toInt = (gI z1 12).toInt by rw [ez_214]; rfl)).trans (show (gI z1 12).toInt = (gI z 12).toInt by rw [ez1]; rfl)
                        refine ⟨vin rfl (by omega) (by omega), ?_⟩
                        intro z_217 ez_217
                        have tz_217 : TM z_217 := by rw [ez_217]; exact Ty_wR tz_216 (show 0 ≤ b4.toInt ∧ b4.toInt ≤ 4 from by omega)
                        have oz_217 : Same [0, 1, 12] [6, 7, 8, 9, 10, 11, 12] z z_217 := oz_216.r (by decide) ez_217
                        have f_247 : 0 ≤ (gI z_217 12).toInt ∧ (gI z_217 12).toInt ≤ 16 := tz_217.1 12
                        have q_248 := (((((show (gI z_217 12).toInt = (gI z_216 12).toInt by rw [ez_217]; rfl)).trans (show (gI z_216 12).toInt = (gI z_215 12).toInt by rw [ez_216]; rfl)).trans (show (gI z_215 12).toInt = (gI z_214 12).toInt by rw [ez_215]; rfl)).trans (show (gI z_214 12).toInt = (gI z1 12).toInt by rw [ez_214]; rfl)).trans (show (gI z1 12).toInt = (gI z 12).toInt by rw [ez1]; rfl)
                        refine ⟨vin (a_mul (show (4 : Int32).toInt = 4 by decide) rfl (by omega) (by omega)) (by omega) (by omega), ?_⟩
                        intro z_218 ez_218
                        have tz_218 : TM z_218 := by rw [ez_218]; exact Ty_wR tz_217 trivial
                        have oz_218 : Same [0, 1, 12] [6, 7, 8, 9, 10, 11, 12] z z_218 := oz_217.r (by decide) ez_218
                        have f_249 : 0 ≤ (gI z_218 12).toInt ∧ (gI z_218 12).toInt ≤ 16 := tz_218.1 12
                        have q_250 := ((((((show (gI z_218 12).toInt = (gI z_217 12).toInt by rw [ez_218]; rfl)).trans (show (gI z_217 12).toInt = (gI z_216 12).toInt by rw [ez_217]; rfl)).trans (show (gI z_216 12).toInt = (gI z_215 12).toInt by rw [ez_216]; rfl)).trans (show (gI z_215 12).toInt = (gI z_214 12).toInt by rw [ez_215]; rfl)).trans (show (gI z_214 12).toInt = (gI z1 12).toInt by rw [ez_214]; rfl)).trans (show (gI z1 12).toInt = (gI z 12).toInt by rw [ez1]; rfl)
                        refine ⟨vin (a_add (a_mul (show (4 : Int32).toInt = 4 by decide) rfl (by omega) (by omega)) (show (1 : Int32).toInt = 1 by decide) (by omega) (by omega)) (by omega) (by omega), ?_⟩
                        intro z_219 ez_219
                        have tz_219 : TM z_219 := by rw [ez_219]; exact Ty_wR tz_218 trivial
                        have oz_219 : Same [0, 1, 12] [6, 7, 8, 9, 10, 11, 12] z z_219 := oz_218.r (by decide) ez_219
                        have f_251 : 0 ≤ (gI z_219 12).toInt ∧ (gI z_219 12).toInt ≤ 16 := tz_219.1 12
                        have q_252 := (((((((show (gI z_219 12).toInt = (gI z_218 12).toInt by rw [ez_219]; rfl)).trans (show (gI z_218 12).toInt = (gI z_217 12).toInt by rw [ez_218]; rfl)).trans (show (gI z_217 12).toInt = (gI z_216 12).toInt by rw [ez_217]; rfl)).trans (show (gI z_216 12).toInt = (gI z_215 12).toInt by rw [ez_216]; rfl)).trans (show (gI z_215 12).toInt = (gI z_214 12).toInt by rw [ez_215]; rfl)).trans (show (gI z_214 12).toInt = (gI z1 12).toInt by rw [ez_214]; rfl)).trans (show (gI z1 12).toInt = (gI z 12).toInt by rw [ez1]; rfl)
                        refine ⟨vin (a_add (a_mul (show (4 : Int32).toInt = 4 by decide) rfl (by omega) (by omega)) (show (2 : Int32).toInt = 2 by decide) (by omega) (by omega)) (by omega) (by omega), ?_⟩
                        intro z_220 ez_220
                        have tz_220 : TM z_220 := by rw [ez_220]; exact Ty_wR tz_219 trivial
                        have oz_220 : Same [0, 1, 12] [6, 7, 8, 9, 10, 11, 12] z z_220 := oz_219.r (by decide) ez_220
                        have f_253 : 0 ≤ (gI z_220 12).toInt ∧ (gI z_220 12).toInt ≤ 16 := tz_220.1 12
                        have q_254 := ((((((((show (gI z_220 12).toInt = (gI z_219 12).toInt by rw [ez_220]; rfl)).trans (show (gI z_219 12).toInt = (gI z_218 12).toInt by rw [ez_219]; rfl)).trans (show (gI z_218 12).toInt = (gI z_217 12).toInt by rw [ez_218]; rfl)).trans (show (gI z_217 12).toInt = (gI z_216 12).toInt by rw [ez_217]; rfl)).trans (show (gI z_216 12).toInt = (gI z_215 12).toInt by rw [ez_216]; rfl)).trans (show (gI z_215 12).toInt = (gI z_214 12).toInt by rw [ez_215]; rfl)).trans (show (gI z_214 12).toInt = (gI z1 12).toInt by rw [ez_214]; rfl)).trans (show (gI z1 12).toInt = (gI z 12).toInt by rw [ez1]; rfl)
                        refine ⟨vin (a_add (a_mul (show (4 : Int32).toInt = 4 by decide) rfl (by omega) (by omega)) (show (3 : Int32).toInt = 3 by decide) (by omega) (by omega)) (by omega) (by omega), ?_⟩
                        intro z_221 ez_221
                        have tz_221 : TM z_221 := by rw [ez_221]; exact Ty_wR tz_220 trivial
                        have oz_221 : Same [0, 1, 12] [6, 7, 8, 9, 10, 11, 12] z z_221 := oz_220.r (by decide) ez_221
                        have f_255 : 0 ≤ (gI z_221 12).toInt ∧ (gI z_221 12).toInt ≤ 16 := tz_221.1 12
                        have q_256 := (((((((((show (gI z_221 12).toInt = (gI z_220 12).toInt by rw [ez_221]; rfl)).trans (show (gI z_220 12).toInt = (gI z_219 12).toInt by rw [ez_220]; rfl)).trans (show (gI z_219 12).toInt = (gI z_218 12).toInt by rw [ez_219]; rfl)).trans (show (gI z_218 12).toInt = (gI z_217 12).toInt by rw [ez_218]; rfl)).trans (show (gI z_217 12).toInt = (gI z_216 12).toInt by rw [ez_217]; rfl)).trans (show (gI z_216 12).toInt = (gI z_215 12).toInt by rw [ez_216]; rfl)).trans (show (gI z_215 12).toInt = (gI z_214 12).toInt by rw [ez_215]; rfl)).trans (show (gI z_214 12).toInt = (gI z1 12).toInt by rw [ez_214]; rfl)).trans (show (gI z1 12).toInt = (gI z 12).toInt by rw [ez1]; rfl)
                        refine ⟨vin rfl (by omega) (by omega), ?_⟩
                        intro z_222 ez_222
                        have tz_222 : TM z_222 := by rw [ez_222]; exact Ty_wR tz_221 trivial
                        have oz_222 : Same [0, 1, 12] [6, 7, 8, 9, 10, 11, 12] z z_222 := oz_221.r (by decide) ez_222
                        have f_257 : 0 ≤ (gI z_222 12).toInt ∧ (gI z_222 12).toInt ≤ 16 := tz_222.1 12
                        have q_258 := ((((((((((show (gI z_222 12).toInt = (gI z_221 12).toInt by rw [ez_222]; rfl)).trans (show (gI z_221 12).toInt = (gI z_220 12).toInt by rw [ez_221]; rfl)).trans (show (gI z_220 12).toInt = (gI z_219 12).toInt by rw [ez_220]; rfl)).trans (show (gI z_219 12).toInt = (gI z_218 12).toInt by rw [ez_219]; rfl)).trans (show (gI z_218 12).toInt = (gI z_217 12).toInt by rw [ez_218]; rfl)).trans (show (gI z_217 12).toInt = (gI z_216 12).toInt by rw [ez_217]; rfl)).trans (show (gI z_216 12).toInt = (gI z_215 12).toInt by rw [ez_216]; rfl)).trans (show (gI z_215 12).toInt = (gI z_214 12).toInt by rw [ez_215]; rfl)).trans (show (gI z_214 12).toInt = (gI z1 12).toInt by rw [ez_214]; rfl)).trans (show (gI z1 12).toInt = (gI z 12).toInt by rw [ez1]; rfl)
                        refine ⟨vin rfl (by omega) (by omega), ?_⟩
                        intro z_223 ez_223
                        have tz_223 : TM z_223 := by rw [ez_223]; exact Ty_wR tz_222 trivial
                        have oz_223 : Same [0, 1, 12] [6, 7, 8, 9, 10, 11, 12] z z_223 := oz_222.r (by decide) ez_223
                        intro z_224 ez_224
                        have f_259 : 0 ≤ (gI z_223 12).toInt ∧ (gI z_223 12).toInt ≤ 16 := tz_223.1 12
                        have q_260 := (((((((((((show (gI z_223 12).toInt = (gI z_222 12).toInt by rw [ez_223]; rfl)).trans (show (gI z_222 12).toInt = (gI z_221 12).toInt by rw [ez_222]; rfl)).trans (show (gI z_221 12).toInt = (gI z_220 12).toInt by rw [ez_221]; rfl)).trans (show (gI z_220 12).toInt = (gI z_219 12).toInt by rw [ez_220]; rfl)).trans (show (gI z_219 12).toInt = (gI z_218 12).toInt by rw [ez_219]; rfl)).trans (show (gI z_218 12).toInt = (gI z_217 12).toInt by rw [ez_218]; rfl)).trans (show (gI z_217 12).toInt = (gI z_216 12).toInt by rw [ez_217]; rfl)).trans (show (gI z_216 12).toInt = (gI z_215 12).toInt by rw [ez_216]; rfl)).trans (show (gI z_215 12).toInt = (gI z_214 12).toInt by rw [ez_215]; rfl)).trans (show (gI z_214 12).toInt = (gI z1 12).toInt by rw [ez_214]; rfl)).trans (show (gI z1 12).toInt = (gI z 12).toInt by rw [ez1]; rfl)
                        have tz_224 : TM z_224 := by rw [ez_224]; exact Ty_wI tz_223 (show 0 ≤ ((gI z_223 12) + (1 : Int32)).toInt ∧ ((gI z_223 12) + (1 : Int32)).toInt ≤ 16 from by rw [(a_add rfl (show (1 : Int32).toInt = 1 by decide) (by omega) (by omega))]; omega)
                        have oz_224 : Same [0, 1, 12] [6, 7, 8, 9, 10, 11, 12] z z_224 := oz_223.i (by decide) ez_224
                        have f_261 : 0 ≤ (gI z_224 12).toInt ∧ (gI z_224 12).toInt ≤ 16 := tz_224.1 12
                        have q_262 := (show (gI z_224 12).toInt = ((gI z_223 12) + (1 : Int32)).toInt by rw [ez_224]; rfl)
                        have q_263 : ((gI z_223 12) + (1 : Int32)).toInt = ((gI z_223 12).toInt + (1)) := (a_add rfl (show (1 : Int32).toInt = 1 by decide) (by omega) (by omega))
                        have g_264 : ((gI z_224 12) - (1 : Int32)).toInt = ((gI z_224 12).toInt - (1)) := (a_sub rfl (show (1 : Int32).toInt = 1 by decide) (by omega) (by omega))
                        refine s_X9_told ((gI z_224 12) - ((1 : Int32))) z_224 _ tz_224  (fun r_225 z_226 tz_226 o_266 hp_265 => ?_)
                        have oz_226 : Same [0, 1, 12] [6, 7, 8, 9, 10, 11, 12] z z_226 := oz_224.tr o_266 (by decide) (by decide)
                        exact hk r_225 z_226 tz_226 oz_226 trivial
                      · skip
                        have f_267 : 0 ≤ (gI z1 12).toInt ∧ (gI z1 12).toInt ≤ 16 := tz1.1 12
                        have q_268 := (show (gI z1 12).toInt = (gI z 12).toInt by rw [ez1]; rfl)
                        have f_269 : 0 ≤ (gI z 12).toInt ∧ (gI z 12).toInt ≤ 16 := ht.1 12
                        have i_270 := i_eq rfl (show (16 : Int32).toInt = 16 by decide) c_213
                        have g_271 : (-5 : Int32).toInt = -5 := by decide
                        refine s_X9_told ((-5 : Int32)) z1 _ tz1  (fun r_227 z_228 tz_228 o_273 hp_272 => ?_)
                        have oz_228 : Same [0, 1, 12] [6, 7, 8, 9, 10, 11, 12] z z_228 := oz1.tr o_273 (by decide) (by decide)
                        exact hk r_227 z_228 tz_228 oz_228 trivial
                    · subst er_211
                      have f_274 : 0 ≤ (gI z1 8).toInt ∧ (gI z1 8).toInt ≤ 4 := tz1.1 8
                      have q_275 := (show (gI z1 8).toInt = (gI z 8).toInt by rw [ez1]; rfl)
                      have f_276 : 0 ≤ (gI z 8).toInt ∧ (gI z 8).toInt ≤ 4 := ht.1 8
                      refine ⟨fun hc => absurd hc (by decide), fun _ => ?_⟩
                      have g_277 : (-2 : Int32).toInt = -2 := by decide
                      refine s_X9_told ((-2 : Int32)) z1 _ tz1  (fun r_229 z_230 tz_230 o_279 hp_278 => ?_)
                      have oz_230 : Same [0, 1, 12] [6, 7, 8, 9, 10, 11, 12] z z_230 := oz1.tr o_279 (by decide) (by decide)
                      exact hk r_229 z_230 tz_230 oz_230 trivial
                  · skip
                    have i_280 := i_nlt rfl (show (4 : Int32).toInt = 4 by decide) c_205
                    have g_281 : (Int32.toInt64 b8).toInt = b8.toInt := (a_wide rfl)
                    have g_282 : (0 : Int64).toInt = 0 := by decide
                    have g_283 : (5000 : Int64).toInt = 5000 := by decide
                    refine s_X9_in (Int32.toInt64 b8) ((0 : Int64)) ((5000 : Int64)) z1 _ tz1  (fun r_206 hp_284 => ?_)
                    rcases hp_284 with ⟨er_206, hp_284⟩ | ⟨er_206, hp_284⟩
                    · subst er_206
                      refine ⟨fun hc => absurd hc (by decide), fun _ => ?_⟩
                      refine hK_208  ?_
                      refine hK_190 ((1 : Int32)) ?_
                      refine ⟨fun _ => ?_, fun hc => absurd hc (by decide)⟩
                      refine s_X9_isHome b1 z1 _ tz1  (fun r_286 hp_308 => ?_)
                      rcases hp_308 with ⟨er_286, hp_308⟩ | ⟨er_286, hp_308⟩
                      · subst er_286
                        have f_309 : 0 ≤ (gI z1 8).toInt ∧ (gI z1 8).toInt ≤ 4 := tz1.1 8
                        have q_310 := (show (gI z1 8).toInt = (gI z 8).toInt by rw [ez1]; rfl)
                        have f_311 : 0 ≤ (gI z 8).toInt ∧ (gI z 8).toInt ≤ 4 := ht.1 8
                        refine ⟨fun _ => ?_, fun hc => absurd hc (by decide)⟩
                        refine ⟨fun c_288 => ?_, fun c_288 => ?_⟩
                        · skip
                          have f_312 : 0 ≤ (gI z1 12).toInt ∧ (gI z1 12).toInt ≤ 16 := tz1.1 12
                          have q_313 := (show (gI z1 12).toInt = (gI z 12).toInt by rw [ez1]; rfl)
                          have f_314 : 0 ≤ (gI z 12).toInt ∧ (gI z 12).toInt ≤ 16 := ht.1 12
                          have i_315 := i_ne rfl (show (16 : Int32).toInt = 16 by decide) c_288
                          refine ⟨vin rfl (by omega) (by omega), ?_⟩
                          intro z_289 ez_289
                          have tz_289 : TM z_289 := by rw [ez_289]; exact Ty_wR tz1 (show 0 ≤ b1.toInt ∧ b1.toInt ≤ 3 from by omega)
                          have oz_289 : Same [0, 1, 12] [6, 7, 8, 9, 10, 11, 12] z z_289 := oz1.r (by decide) ez_289
                          have f_316 : 0 ≤ (gI z_289 12).toInt ∧ (gI z_289 12).toInt ≤ 16 := tz_289.1 12
                          have q_317 := ((show (gI z_289 12).toInt = (gI z1 12).toInt by rw [ez_289]; rfl)).trans (show (gI z1 12).toInt = (gI z 12).toInt by rw [ez1]; rfl)
                          refine ⟨vin rfl (by omega) (by omega), ?_⟩
                          intro z_290 ez_290
                          have tz_290 : TM z_290 := by rw [ez_290]; exact Ty_wR tz_289 (show 0 ≤ b2.toInt ∧ b2.toInt ≤ 167 from by omega)
                          have oz_290 : Same [0, 1, 12] [6, 7, 8, 9, 10, 11, 12] z z_290 := oz_289.r (by decide) ez_290
                          have f_318 : 0 ≤ (gI z_290 12).toInt ∧ (gI z_290 12).toInt ≤ 16 := tz_290.1 12
                          have q_319 := (((show (gI z_290 12).toInt = (gI z_289 12).toInt by rw [ez_290]; rfl)).trans (show (gI z_289 12).toInt = (gI z1 12).toInt by rw [ez_289]; rfl)).trans (show (gI z1 12).toInt = (gI z 12).toInt by rw [ez1]; rfl)
                          refine ⟨vin rfl (by omega) (by omega), ?_⟩
                          intro z_291 ez_291
                          have tz_291 : TM z_291 := by rw [ez_291]; exact Ty_wR tz_290 (show 0 ≤ b3.toInt ∧ b3.toInt ≤ 167 from by omega)
                          have oz_291 : Same [0, 1, 12] [6, 7, 8, 9, 10, 11, 12] z z_291 := oz_290.r (by decide) ez_291
                          have f_320 : 0 ≤ (gI z_291 12).toInt ∧ (gI z_291 12).toInt ≤ 16 := tz_291.1 12
                          have q_321 := ((((show (gI z_291 12).toInt = (gI z_290 12).toInt by rw [ez_291]; rfl)).trans (show (gI z_290 12).toInt = (gI z_289 12).toInt by rw [ez_290]; rfl)).trans (show (gI z_289 12).toInt = (gI z1 12).toInt by rw [ez_289]; rfl)).trans (show (gI z1 12).toInt = (gI z 12).toInt by rw [ez1]; rfl)
                          refine ⟨vin rfl (by omega) (by omega), ?_⟩
                          intro z_292 ez_292
                          have tz_292 : TM z_292 := by rw [ez_292]; exact Ty_wR tz_291 (show 0 ≤ b4.toInt ∧ b4.toInt ≤ 4 from by omega)
                          have oz_292 : Same [0, 1, 12] [6, 7, 8, 9, 10, 11, 12] z z_292 := oz_291.r (by decide) ez_292
                          have f_322 : 0 ≤ (gI z_292 12).toInt ∧ (gI z_292 12).toInt ≤ 16 := tz_292.1 12
                          have q_323 := (((((show (gI z_292 12).toInt = (gI z_291 12).toInt by rw [ez_292]; rfl)).trans (show (gI z_291 12).toInt = (gI z_290 12).toInt by rw [ez_291]; rfl)).trans (show (gI z_290 12).toInt = (gI z_289 12).toInt by rw [ez_290]; rfl)).trans (show (gI z_289 12).toInt = (gI z1 12).toInt by rw [ez_289]; rfl)).trans (show (gI z1 12).toInt = (gI z 12).toInt by rw [ez1]; rfl)
                          refine ⟨vin (a_mul (show (4 : Int32).toInt = 4 by decide) rfl (by omega) (by omega)) (by omega) (by omega), ?_⟩
                          intro z_293 ez_293
                          have tz_293 : TM z_293 := by rw [ez_293]; exact Ty_wR tz_292 trivial
                          have oz_293 : Same [0, 1, 12] [6, 7, 8, 9, 10, 11, 12] z z_293 := oz_292.r (by decide) ez_293
                          have f_324 : 0 ≤ (gI z_293 12).toInt ∧ (gI z_293 12).toInt ≤ 16 := tz_293.1 12
                          have q_325 := ((((((show (gI z_293 12).toInt = (gI z_292 12).toInt by rw [ez_293]; rfl)).trans (show (gI z_292 12).toInt = (gI z_291 12).toInt by rw [ez_292]; rfl)).trans (show (gI z_291 12).toInt = (gI z_290 12).toInt by rw [ez_291]; rfl)).trans (show (gI z_290 12).toInt = (gI z_289 12).toInt by rw [ez_290]; rfl)).trans (show (gI z_289 12).toInt = (gI z1 12).toInt by rw [ez_289]; rfl)).trans (show (gI z1 12).toInt = (gI z 12).toInt by rw [ez1]; rfl)
                          refine ⟨vin (a_add (a_mul (show (4 : Int32).toInt = 4 by decide) rfl (by omega) (by omega)) (show (1 : Int32).toInt = 1 by decide) (by omega) (by omega)) (by omega) (by omega), ?_⟩
                          intro z_294 ez_294
                          have tz_294 : TM z_294 := by rw [ez_294]; exact Ty_wR tz_293 trivial
                          have oz_294 : Same [0, 1, 12] [6, 7, 8, 9, 10, 11, 12] z z_294 := oz_293.r (by decide) ez_294
                          have f_326 : 0 ≤ (gI z_294 12).toInt ∧ (gI z_294 12).toInt ≤ 16 := tz_294.1 12
                          have q_327 := (((((((show (gI z_294 12).toInt = (gI z_293 12).toInt by rw [ez_294]; rfl)).trans (show (gI z_293 12).toInt = (gI z_292 12).toInt by rw [ez_293]; rfl)).trans (show (gI z_292 12).toInt = (gI z_291 12).toInt by rw [ez_292]; rfl)).trans (show (gI z_291 12).toInt = (gI z_290 12).toInt by rw [ez_291]; rfl)).trans (show (gI z_290 12).toInt = (gI z_289 12).toInt by rw [ez_290]; rfl)).trans (show (gI z_289 12).toInt = (gI z1 12).toInt by rw [ez_289]; rfl)).trans (show (gI z1 12).toInt = (gI z 12).toInt by rw [ez1]; rfl)
                          refine ⟨vin (a_add (a_mul (show (4 : Int32).toInt = 4 by decide) rfl (by omega) (by omega)) (show (2 : Int32).toInt = 2 by decide) (by omega) (by omega)) (by omega) (by omega), ?_⟩
                          intro z_295 ez_295
                          have tz_295 : TM z_295 := by rw [ez_295]; exact Ty_wR tz_294 trivial
                          have oz_295 : Same [0, 1, 12] [6, 7, 8, 9, 10, 11, 12] z z_295 := oz_294.r (by decide) ez_295
                          have f_328 : 0 ≤ (gI z_295 12).toInt ∧ (gI z_295 12).toInt ≤ 16 := tz_295.1 12
                          have q_329 := ((((((((show (gI z_295 12).toInt = (gI z_294 12).toInt by rw [ez_295]; rfl)).trans (show (gI z_294 12).toInt = (gI z_293 12).toInt by rw [ez_294]; rfl)).trans (show (gI z_293 12).toInt = (gI z_292 12).toInt by rw [ez_293]; rfl)).trans (show (gI z_292 12).toInt = (gI z_291 12).toInt by rw [ez_292]; rfl)).trans (show (gI z_291 12).toInt = (gI z_290 12).toInt by rw [ez_291]; rfl)).trans (show (gI z_290 12).toInt = (gI z_289 12).toInt by rw [ez_290]; rfl)).trans (show (gI z_289 12).toInt = (gI z1 12).toInt by rw [ez_289]; rfl)).trans (show (gI z1 12).toInt = (gI z 12).toInt by rw [ez1]; rfl)
                          refine ⟨vin (a_add (a_mul (show (4 : Int32).toInt = 4 by decide) rfl (by omega) (by omega)) (show (3 : Int32).toInt = 3 by decide) (by omega) (by omega)) (by omega) (by omega), ?_⟩
                          intro z_296 ez_296
                          have tz_296 : TM z_296 := by rw [ez_296]; exact Ty_wR tz_295 trivial
                          have oz_296 : Same [0, 1, 12] [6, 7, 8, 9, 10, 11, 12] z z_296 := oz_295.r (by decide) ez_296
                          have f_330 : 0 ≤ (gI z_296 12).toInt ∧ (gI z_296 12).toInt ≤ 16 := tz_296.1 12
                          have q_331 := (((((((((show (gI z_296 12).toInt = (gI z_295 12).toInt by rw [ez_296]; rfl)).trans (show (gI z_295 12).toInt = (gI z_294 12).toInt by rw [ez_295]; rfl)).trans (show (gI z_294 12).toInt = (gI z_293 12).toInt by rw [ez_294]; rfl)).trans (show (gI z_293 12).toInt = (gI z_292 12).toInt by rw [ez_293]; rfl)).trans (show (gI z_292 12).toInt = (gI z_291 12).toInt by rw [ez_292]; rfl)).trans (show (gI z_291 12).toInt = (gI z_290 12).toInt by rw [ez_291]; rfl)).trans (show (gI z_290 12).toInt = (gI z_289 12).toInt by rw [ez_290]; rfl)).trans (show (gI z_289 12).toInt = (gI z1 12).toInt by rw [ez_289]; rfl)).trans (show (gI z1 12).toInt = (gI z 12).toInt by rw [ez1]; rfl)
                          refine ⟨vin rfl (by omega) (by omega), ?_⟩
                          intro z_297 ez_297
                          have tz_297 : TM z_297 := by rw [ez_297]; exact Ty_wR tz_296 trivial
                          have oz_297 : Same [0, 1, 12] [6, 7, 8, 9, 10, 11, 12] z z_297 := oz_296.r (by decide) ez_297
                          have f_332 : 0 ≤ (gI z_297 12).toInt ∧ (gI z_297 12).toInt ≤ 16 := tz_297.1 12
                          have q_333 := ((((((((((show (gI z_297 12).toInt = (gI z_296 12).toInt by rw [ez_297]; rfl)).trans (show (gI z_296 12).toInt = (gI z_295 12).toInt by rw [ez_296]; rfl)).trans (show (gI z_295 12).toInt = (gI z_294 12).toInt by rw [ez_295]; rfl)).trans (show (gI z_294 12).toInt = (gI z_293 12).toInt by rw [ez_294]; rfl)).trans (show (gI z_293 12).toInt = (gI z_292 12).toInt by rw [ez_293]; rfl)).trans (show (gI z_292 12).toInt = (gI z_291 12).toInt by rw [ez_292]; rfl)).trans (show (gI z_291 12).toInt = (gI z_290 12).toInt by rw [ez_291]; rfl)).trans (show (gI z_290 12).toInt = (gI z_289 12).toInt by rw [ez_290]; rfl)).trans (show (gI z_289 12).toInt = (gI z1 12).toInt by rw [ez_289]; rfl)).trans (show (gI z1 12).toInt = (gI z 12).toInt by rw [ez1]; rfl)
                          refine ⟨vin rfl (by omega) (by omega), ?_⟩
                          intro z_298 ez_298
                          have tz_298 : TM z_298 := by rw [ez_298]; exact Ty_wR tz_297 trivial
                          have oz_298 : Same [0, 1, 12] [6, 7, 8, 9, 10, 11, 12] z z_298 := oz_297.r (by decide) ez_298
                          intro z_299 ez_299
                          have f_334 : 0 ≤ (gI z_298 12).toInt ∧ (gI z_298 12).toInt ≤ 16 := tz_298.1 12
                          have q_335 := (((((((((((show (gI z_298 12).toInt = (gI z_297 12).toInt by rw [ez_298]; rfl)).trans (show (gI z_297 12).toInt = (gI z_296 12).toInt by rw [ez_297]; rfl)).trans (show (gI z_296 12).toInt = (gI z_295 12).toInt by rw [ez_296]; rfl)).trans (show (gI z_295 12).toInt = (gI z_294 12).toInt by rw [ez_295]; rfl)).trans (show (gI z_294 12).toInt = (gI z_293 12).toInt by rw [ez_294]; rfl)).trans (show (gI z_293 12).toInt = (gI z_292 12).toInt by rw [ez_293]; rfl)).trans (show (gI z_292 12).toInt = (gI z_291 12).toInt by rw [ez_292]; rfl)).trans (show (gI z_291 12).toInt = (gI z_290 12).toInt by rw [ez_291]; rfl)).trans (show (gI z_290 12).toInt = (gI z_289 12).toInt by rw [ez_290]; rfl)).trans (show (gI z_289 12).toInt = (gI z1 12).toInt by rw [ez_289]; rfl)).trans (show (gI z1 12).toInt = (gI z 12).toInt by rw [ez1]; rfl)
                          have tz_299 : TM z_299 := by rw [ez_299]; exact Ty_wI tz_298 (show 0 ≤ ((gI z_298 12) + (1 : Int32)).toInt ∧ ((gI z_298 12) + (1 : Int32)).toInt ≤ 16 from by rw [(a_add rfl (show (1 : Int32).toInt = 1 by decide) (by omega) (by omega))]; omega)
                          have oz_299 : Same [0, 1, 12] [6, 7, 8, 9, 10, 11, 12] z z_299 := oz_298.i (by decide) ez_299
                          have f_336 : 0 ≤ (gI z_299 12).toInt ∧ (gI z_299 12).toInt ≤ 16 := tz_299.1 12
                          have q_337 := (show (gI z_299 12).toInt = ((gI z_298 12) + (1 : Int32)).toInt by rw [ez_299]; rfl)
                          have q_338 : ((gI z_298 12) + (1 : Int32)).toInt = ((gI z_298 12).toInt + (1)) := (a_add rfl (show (1 : Int32).toInt = 1 by decide) (by omega) (by omega))
                          have g_339 : ((gI z_299 12) - (1 : Int32)).toInt = ((gI z_299 12).toInt - (1)) := (a_sub rfl (show (1 : Int32).toInt = 1 by decide) (by omega) (by omega))
                          refine s_X9_told ((gI z_299 12) - ((1 : Int32))) z_299 _ tz_299  (fun r_300 z_301 tz_301 o_341 hp_340 => ?_)
                          have oz_301 : Same [0, 1, 12] [6, 7, 8, 9, 10, 11, 12] z z_301 := oz_299.tr o_341 (by decide) (by decide)
                          exact hk r_300 z_301 tz_301 oz_301 trivial
                        · skip
                          have f_342 : 0 ≤ (gI z1 12).toInt ∧ (gI z1 12).toInt ≤ 16 := tz1.1 12
                          have q_343 := (show (gI z1 12).toInt = (gI z 12).toInt by rw [ez1]; rfl)
                          have f_344 : 0 ≤ (gI z 12).toInt ∧ (gI z 12).toInt ≤ 16 := ht.1 12
                          have i_345 := i_eq rfl (show (16 : Int32).toInt = 16 by decide) c_288
                          have g_346 : (-5 : Int32).toInt = -5 := by decide
                          refine s_X9_told ((-5 : Int32)) z1 _ tz1  (fun r_302 z_303 tz_303 o_348 hp_347 => ?_)
                          have oz_303 : Same [0, 1, 12] [6, 7, 8, 9, 10, 11, 12] z z_303 := oz1.tr o_348 (by decide) (by decide)
                          exact hk r_302 z_303 tz_303 oz_303 trivial
                      · subst er_286
                        have f_349 : 0 ≤ (gI z1 8).toInt ∧ (gI z1 8).toInt ≤ 4 := tz1.1 8
                        have q_350 := (show (gI z1 8).toInt = (gI z 8).toInt by rw [ez1]; rfl)
                        have f_351 : 0 ≤ (gI z 8).toInt ∧ (gI z 8).toInt ≤ 4 := ht.1 8
                        refine ⟨fun hc => absurd hc (by decide), fun _ => ?_⟩
                        have g_352 : (-2 : Int32).toInt = -2 := by decide
                        refine s_X9_told ((-2 : Int32)) z1 _ tz1  (fun r_304 z_305 tz_305 o_354 hp_353 => ?_)
                        have oz_305 : Same [0, 1, 12] [6, 7, 8, 9, 10, 11, 12] z z_305 := oz1.tr o_354 (by decide) (by decide)
                        exact hk r_304 z_305 tz_305 oz_305 trivial
                    · subst er_206
                      refine ⟨fun _ => ?_, fun hc => absurd (show ((0 : Int32)) = ((0 : Int32)) by decide) hc⟩
                      refine hK_191  ?_
                      refine hK_190 ((0 : Int32)) ?_
                      refine ⟨fun hc => absurd hc (by decide), fun _ => ?_⟩
                      have g_378 : (-1 : Int32).toInt = -1 := by decide
                      refine s_X9_told ((-1 : Int32)) z1 _ tz1  (fun r_376 z_377 tz_377 o_380 hp_379 => ?_)
                      have oz_377 : Same [0, 1, 12] [6, 7, 8, 9, 10, 11, 12] z z_377 := oz1.tr o_380 (by decide) (by decide)
                      exact hk r_376 z_377 tz_377 oz_377 trivial
                · skip
                  have i_381 := i_nlt rfl (show (3 : Int32).toInt = 3 by decide) c_199
                  have g_382 : (Int32.toInt64 b7).toInt = b7.toInt := (a_wide rfl)
                  have g_383 : (0 : Int64).toInt = 0 := by decide
                  have g_384 : (5000 : Int64).toInt = 5000 := by decide
                  refine s_X9_in (Int32.toInt64 b7) ((0 : Int64)) ((5000 : Int64)) z1 _ tz1  (fun r_200 hp_385 => ?_)
                  rcases hp_385 with ⟨er_200, hp_385⟩ | ⟨er_200, hp_385⟩
                  · subst er_200
                    refine ⟨fun hc => absurd hc (by decide), fun _ => ?_⟩
                    refine hK_202  ?_
                    intro K_386 hK_390
                    refine ⟨fun c_387 => ?_, fun c_387 => ?_⟩
                    · skip
                      have i_391 := i_lt rfl (show (4 : Int32).toInt = 4 by decide) c_387
                      refine hK_390  ?_
                      refine hK_190 ((1 : Int32)) ?_
                      refine ⟨fun _ => ?_, fun hc => absurd hc (by decide)⟩
                      refine s_X9_isHome b1 z1 _ tz1  (fun r_393 hp_415 => ?_)
                      rcases hp_415 with ⟨er_393, hp_415⟩ | ⟨er_393, hp_415⟩
                      · subst er_393
                        have f_416 : 0 ≤ (gI z1 8).toInt ∧ (gI z1 8).toInt ≤ 4 := tz1.1 8
                        have q_417 := (show (gI z1 8).toInt = (gI z 8).toInt by rw [ez1]; rfl)
                        have f_418 : 0 ≤ (gI z 8).toInt ∧ (gI z 8).toInt ≤ 4 := ht.1 8
                        refine ⟨fun _ => ?_, fun hc => absurd hc (by decide)⟩
                        refine ⟨fun c_395 => ?_, fun c_395 => ?_⟩
                        · skip
                          have f_419 : 0 ≤ (gI z1 12).toInt ∧ (gI z1 12).toInt ≤ 16 := tz1.1 12
                          have q_420 := (show (gI z1 12).toInt = (gI z 12).toInt by rw [ez1]; rfl)
                          have f_421 : 0 ≤ (gI z 12).toInt ∧ (gI z 12).toInt ≤ 16 := ht.1 12
                          have i_422 := i_ne rfl (show (16 : Int32).toInt = 16 by decide) c_395
                          refine ⟨vin rfl (by omega) (by omega), ?_⟩
                          intro z_396 ez_396
                          have tz_396 : TM z_396 := by rw [ez_396]; exact Ty_wR tz1 (show 0 ≤ b1.toInt ∧ b1.toInt ≤ 3 from by omega)
                          have oz_396 : Same [0, 1, 12] [6, 7, 8, 9, 10, 11, 12] z z_396 := oz1.r (by decide) ez_396
                          have f_423 : 0 ≤ (gI z_396 12).toInt ∧ (gI z_396 12).toInt ≤ 16 := tz_396.1 12
                          have q_424 := ((show (gI z_396 12).toInt = (gI z1 12).toInt by rw [ez_396]; rfl)).trans (show (gI z1 12).toInt = (gI z 12).toInt by rw [ez1]; rfl)
                          refine ⟨vin rfl (by omega) (by omega), ?_⟩
                          intro z_397 ez_397
                          have tz_397 : TM z_397 := by rw [ez_397]; exact Ty_wR tz_396 (show 0 ≤ b2.toInt ∧ b2.toInt ≤ 167 from by omega)
                          have oz_397 : Same [0, 1, 12] [6, 7, 8, 9, 10, 11, 12] z z_397 := oz_396.r (by decide) ez_397
                          have f_425 : 0 ≤ (gI z_397 12).toInt ∧ (gI z_397 12).toInt ≤ 16 := tz_397.1 12
                          have q_426 := (((show (gI z_397 12).toInt = (gI z_396 12).toInt by rw [ez_397]; rfl)).trans (show (gI z_396 12).toInt = (gI z1 12).toInt by rw [ez_396]; rfl)).trans (show (gI z1 12).toInt = (gI z 12).toInt by rw [ez1]; rfl)
                          refine ⟨vin rfl (by omega) (by omega), ?_⟩
                          intro z_398 ez_398
                          have tz_398 : TM z_398 := by rw [ez_398]; exact Ty_wR tz_397 (show 0 ≤ b3.toInt ∧ b3.toInt ≤ 167 from by omega)
                          have oz_398 : Same [0, 1, 12] [6, 7, 8, 9, 10, 11, 12] z z_398 := oz_397.r (by decide) ez_398
                          have f_427 : 0 ≤ (gI z_398 12).toInt ∧ (gI z_398 12).toInt ≤ 16 := tz_398.1 12
                          have q_428 := ((((show (gI z_398 12).toInt = (gI z_397 12).toInt by rw [ez_398]; rfl)).trans (show (gI z_397 12).toInt = (gI z_396 12).toInt by rw [ez_397]; rfl)).trans (show (gI z_396 12).toInt = (gI z1 12).toInt by rw [ez_396]; rfl)).trans (show (gI z1 12).toInt = (gI z 12).toInt by rw [ez1]; rfl)
                          refine ⟨vin rfl (by omega) (by omega), ?_⟩
                          intro z_399 ez_399
                          have tz_399 : TM z_399 := by rw [ez_399]; exact Ty_wR tz_398 (show 0 ≤ b4.toInt ∧ b4.toInt ≤ 4 from by omega)
                          have oz_399 : Same [0, 1, 12] [6, 7, 8, 9, 10, 11, 12] z z_399 := oz_398.r (by decide) ez_399
                          have f_429 : 0 ≤ (gI z_399 12).toInt ∧ (gI z_399 12).toInt ≤ 16 := tz_399.1 12
                          have q_430 := (((((show (gI z_399 12).toInt = (gI z_398 12).toInt by rw [ez_399]; rfl)).trans (show (gI z_398 12).toInt = (gI z_397 12).toInt by rw [ez_398]; rfl)).trans (show (gI z_397 12).toInt = (gI z_396 12).toInt by rw [ez_397]; rfl)).trans (show (gI z_396 12).toInt = (gI z1 12).toInt by rw [ez_396]; rfl)).trans (show (gI z1 12).toInt = (gI z 12).toInt by rw [ez1]; rfl)
                          refine ⟨vin (a_mul (show (4 : Int32).toInt = 4 by decide) rfl (by omega) (by omega)) (by omega) (by omega), ?_⟩
                          intro z_400 ez_400
                          have tz_400 : TM z_400 := by rw [ez_400]; exact Ty_wR tz_399 trivial
                          have oz_400 : Same [0, 1, 12] [6, 7, 8, 9, 10, 11, 12] z z_400 := oz_399.r (by decide) ez_400
                          have f_431 : 0 ≤ (gI z_400 12).toInt ∧ (gI z_400 12).toInt ≤ 16 := tz_400.1 12
                          have q_432 := ((((((show (gI z_400 12).toInt = (gI z_399 12).toInt by rw [ez_400]; rfl)).trans (show (gI z_399 12).toInt = (gI z_398 12).toInt by rw [ez_399]; rfl)).trans (show (gI z_398 12).toInt = (gI z_397 12).toInt by rw [ez_398]; rfl)).trans (show (gI z_397 12).toInt = (gI z_396 12).toInt by rw [ez_397]; rfl)).trans (show (gI z_396 12).toInt = (gI z1 12).toInt by rw [ez_396]; rfl)).trans (show (gI z1 12).toInt = (gI z 12).toInt by rw [ez1]; rfl)
                          refine ⟨vin (a_add (a_mul (show (4 : Int32).toInt = 4 by decide) rfl (by omega) (by omega)) (show (1 : Int32).toInt = 1 by decide) (by omega) (by omega)) (by omega) (by omega), ?_⟩
                          intro z_401 ez_401
                          have tz_401 : TM z_401 := by rw [ez_401]; exact Ty_wR tz_400 trivial
                          have oz_401 : Same [0, 1, 12] [6, 7, 8, 9, 10, 11, 12] z z_401 := oz_400.r (by decide) ez_401
                          have f_433 : 0 ≤ (gI z_401 12).toInt ∧ (gI z_401 12).toInt ≤ 16 := tz_401.1 12
                          have q_434 := (((((((show (gI z_401 12).toInt = (gI z_400 12).toInt by rw [ez_401]; rfl)).trans (show (gI z_400 12).toInt = (gI z_399 12).toInt by rw [ez_400]; rfl)).trans (show (gI z_399 12).toInt = (gI z_398 12).toInt by rw [ez_399]; rfl)).trans (show (gI z_398 12).toInt = (gI z_397 12).toInt by rw [ez_398]; rfl)).trans (show (gI z_397 12).toInt = (gI z_396 12).toInt by rw [ez_397]; rfl)).trans (show (gI z_396 12).toInt = (gI z1 12).toInt by rw [ez_396]; rfl)).trans (show (gI z1 12).toInt = (gI z 12).toInt by rw [ez1]; rfl)
                          refine ⟨vin (a_add (a_mul (show (4 : Int32).toInt = 4 by decide) rfl (by omega) (by omega)) (show (2 : Int32).toInt = 2 by decide) (by omega) (by omega)) (by omega) (by omega), ?_⟩
                          intro z_402 ez_402
                          have tz_402 : TM z_402 := by rw [ez_402]; exact Ty_wR tz_401 trivial
                          have oz_402 : Same [0, 1, 12] [6, 7, 8, 9, 10, 11, 12] z z_402 := oz_401.r (by decide) ez_402
                          have f_435 : 0 ≤ (gI z_402 12).toInt ∧ (gI z_402 12).toInt ≤ 16 := tz_402.1 12
                          have q_436 := ((((((((show (gI z_402 12).toInt = (gI z_401 12).toInt by rw [ez_402]; rfl)).trans (show (gI z_401 12).toInt = (gI z_400 12).toInt by rw [ez_401]; rfl)).trans (show (gI z_400 12).toInt = (gI z_399 12).toInt by rw [ez_400]; rfl)).trans (show (gI z_399 12).toInt = (gI z_398 12).toInt by rw [ez_399]; rfl)).trans (show (gI z_398 12).toInt = (gI z_397 12).toInt by rw [ez_398]; rfl)).trans (show (gI z_397 12).toInt = (gI z_396 12).toInt by rw [ez_397]; rfl)).trans (show (gI z_396 12).toInt = (gI z1 12).toInt by rw [ez_396]; rfl)).trans (show (gI z1 12).toInt = (gI z 12).toInt by rw [ez1]; rfl)
                          refine ⟨vin (a_add (a_mul (show (4 : Int32).toInt = 4 by decide) rfl (by omega) (by omega)) (show (3 : Int32).toInt = 3 by decide) (by omega) (by omega)) (by omega) (by omega), ?_⟩
                          intro z_403 ez_403
                          have tz_403 : TM z_403 := by rw [ez_403]; exact Ty_wR tz_402 trivial
                          have oz_403 : Same [0, 1, 12] [6, 7, 8, 9, 10, 11, 12] z z_403 := oz_402.r (by decide) ez_403
                          have f_437 : 0 ≤ (gI z_403 12).toInt ∧ (gI z_403 12).toInt ≤ 16 := tz_403.1 12
                          have q_438 := (((((((((show (gI z_403 12).toInt = (gI z_402 12).toInt by rw [ez_403]; rfl)).trans (show (gI z_402 12).toInt = (gI z_401 12).toInt by rw [ez_402]; rfl)).trans (show (gI z_401 12).toInt = (gI z_400 12).toInt by rw [ez_401]; rfl)).trans (show (gI z_400 12).toInt = (gI z_399 12).toInt by rw [ez_400]; rfl)).trans (show (gI z_399 12).toInt = (gI z_398 12).toInt by rw [ez_399]; rfl)).trans (show (gI z_398 12).toInt = (gI z_397 12).toInt by rw [ez_398]; rfl)).trans (show (gI z_397 12).toInt = (gI z_396 12).toInt by rw [ez_397]; rfl)).trans (show (gI z_396 12).toInt = (gI z1 12).toInt by rw [ez_396]; rfl)).trans (show (gI z1 12).toInt = (gI z 12).toInt by rw [ez1]; rfl)
                          refine ⟨vin rfl (by omega) (by omega), ?_⟩
                          intro z_404 ez_404
                          have tz_404 : TM z_404 := by rw [ez_404]; exact Ty_wR tz_403 trivial
                          have oz_404 : Same [0, 1, 12] [6, 7, 8, 9, 10, 11, 12] z z_404 := oz_403.r (by decide) ez_404
                          have f_439 : 0 ≤ (gI z_404 12).toInt ∧ (gI z_404 12).toInt ≤ 16 := tz_404.1 12
                          have q_440 := ((((((((((show (gI z_404 12).toInt = (gI z_403 12).toInt by rw [ez_404]; rfl)).trans (show (gI z_403 12).toInt = (gI z_402 12).toInt by rw [ez_403]; rfl)).trans (show (gI z_402 12).toInt = (gI z_401 12).toInt by rw [ez_402]; rfl)).trans (show (gI z_401 12).toInt = (gI z_400 12).toInt by rw [ez_401]; rfl)).trans (show (gI z_400 12).toInt = (gI z_399 12).toInt by rw [ez_400]; rfl)).trans (show (gI z_399 12).toInt = (gI z_398 12).toInt by rw [ez_399]; rfl)).trans (show (gI z_398 12).toInt = (gI z_397 12).toInt by rw [ez_398]; rfl)).trans (show (gI z_397 12).toInt = (gI z_396 12).toInt by rw [ez_397]; rfl)).trans (show (gI z_396 12).toInt = (gI z1 12).toInt by rw [ez_396]; rfl)).trans (show (gI z1 12).toInt = (gI z 12).toInt by rw [ez1]; rfl)
                          refine ⟨vin rfl (by omega) (by omega), ?_⟩
                          intro z_405 ez_405
                          have tz_405 : TM z_405 := by rw [ez_405]; exact Ty_wR tz_404 trivial
                          have oz_405 : Same [0, 1, 12] [6, 7, 8, 9, 10, 11, 12] z z_405 := oz_404.r (by decide) ez_405
                          intro z_406 ez_406
                          have f_441 : 0 ≤ (gI z_405 12).toInt ∧ (gI z_405 12).toInt ≤ 16 := tz_405.1 12
                          have q_442 := (((((((((((show (gI z_405 12).toInt = (gI z_404 12).toInt by rw [ez_405]; rfl)).trans (show (gI z_404 12).toInt = (gI z_403 12).toInt by rw [ez_404]; rfl)).trans (show (gI z_403 12).toInt = (gI z_402 12).toInt by rw [ez_403]; rfl)).trans (show (gI z_402 12).toInt = (gI z_401 12).toInt by rw [ez_402]; rfl)).trans (show (gI z_401 12).toInt = (gI z_400 12).toInt by rw [ez_401]; rfl)).trans (show (gI z_400 12).toInt = (gI z_399 12).toInt by rw [ez_400]; rfl)).trans (show (gI z_399 12).toInt = (gI z_398 12).toInt by rw [ez_399]; rfl)).trans (show (gI z_398 12).toInt = (gI z_397 12).toInt by rw [ez_398]; rfl)).trans (show (gI z_397 12).toInt = (gI z_396 12).toInt by rw [ez_397]; rfl)).trans (show (gI z_396 12).toInt = (gI z1 12).toInt by rw [ez_396]; rfl)).trans (show (gI z1 12).toInt = (gI z 12).toInt by rw [ez1]; rfl)
                          have tz_406 : TM z_406 := by rw [ez_406]; exact Ty_wI tz_405 (show 0 ≤ ((gI z_405 12) + (1 : Int32)).toInt ∧ ((gI z_405 12) + (1 : Int32)).toInt ≤ 16 from by rw [(a_add rfl (show (1 : Int32).toInt = 1 by decide) (by omega) (by omega))]; omega)
                          have oz_406 : Same [0, 1, 12] [6, 7, 8, 9, 10, 11, 12] z z_406 := oz_405.i (by decide) ez_406
                          have f_443 : 0 ≤ (gI z_406 12).toInt ∧ (gI z_406 12).toInt ≤ 16 := tz_406.1 12
                          have q_444 := (show (gI z_406 12).toInt = ((gI z_405 12) + (1 : Int32)).toInt by rw [ez_406]; rfl)
                          have q_445 : ((gI z_405 12) + (1 : Int32)).toInt = ((gI z_405 12).toInt + (1)) := (a_add rfl (show (1 : Int32).toInt = 1 by decide) (by omega) (by omega))
                          have g_446 : ((gI z_406 12) - (1 : Int32)).toInt = ((gI z_406 12).toInt - (1)) := (a_sub rfl (show (1 : Int32).toInt = 1 by decide) (by omega) (by omega))
                          refine s_X9_told ((gI z_406 12) - ((1 : Int32))) z_406 _ tz_406  (fun r_407 z_408 tz_408 o_448 hp_447 => ?_)
                          have oz_408 : Same [0, 1, 12] [6, 7, 8, 9, 10, 11, 12] z z_408 := oz_406.tr o_448 (by decide) (by decide)
                          exact hk r_407 z_408 tz_408 oz_408 trivial
                        · skip
                          have f_449 : 0 ≤ (gI z1 12).toInt ∧ (gI z1 12).toInt ≤ 16 := tz1.1 12
                          have q_450 := (show (gI z1 12).toInt = (gI z 12).toInt by rw [ez1]; rfl)
                          have f_451 : 0 ≤ (gI z 12).toInt ∧ (gI z 12).toInt ≤ 16 := ht.1 12
                          have i_452 := i_eq rfl (show (16 : Int32).toInt = 16 by decide) c_395
                          have g_453 : (-5 : Int32).toInt = -5 := by decide
                          refine s_X9_told ((-5 : Int32)) z1 _ tz1  (fun r_409 z_410 tz_410 o_455 hp_454 => ?_)
                          have oz_410 : Same [0, 1, 12] [6, 7, 8, 9, 10, 11, 12] z z_410 := oz1.tr o_455 (by decide) (by decide)
                          exact hk r_409 z_410 tz_410 oz_410 trivial
                      · subst er_393
                        have f_456 : 0 ≤ (gI z1 8).toInt ∧ (gI z1 8).toInt ≤ 4 := tz1.1 8
                        have q_457 := (show (gI z1 8).toInt = (gI z 8).toInt by rw [ez1]; rfl)
                        have f_458 : 0 ≤ (gI z 8).toInt ∧ (gI z 8).toInt ≤ 4 := ht.1 8
                        refine ⟨fun hc => absurd hc (by decide), fun _ => ?_⟩
                        have g_459 : (-2 : Int32).toInt = -2 := by decide
                        refine s_X9_told ((-2 : Int32)) z1 _ tz1  (fun r_411 z_412 tz_412 o_461 hp_460 => ?_)
                        have oz_412 : Same [0, 1, 12] [6, 7, 8, 9, 10, 11, 12] z z_412 := oz1.tr o_461 (by decide) (by decide)
                        exact hk r_411 z_412 tz_412 oz_412 trivial
                    · skip
                      have i_462 := i_nlt rfl (show (4 : Int32).toInt = 4 by decide) c_387
                      have g_463 : (Int32.toInt64 b8).toInt = b8.toInt := (a_wide rfl)
                      have g_464 : (0 : Int64).toInt = 0 := by decide
                      have g_465 : (5000 : Int64).toInt = 5000 := by decide
                      refine s_X9_in (Int32.toInt64 b8) ((0 : Int64)) ((5000 : Int64)) z1 _ tz1  (fun r_388 hp_466 => ?_)
                      rcases hp_466 with ⟨er_388, hp_466⟩ | ⟨er_388, hp_466⟩
                      · subst er_388
                        refine ⟨fun hc => absurd hc (by decide), fun _ => ?_⟩
                        refine hK_390  ?_
                        refine hK_190 ((1 : Int32)) ?_
                        refine ⟨fun _ => ?_, fun hc => absurd hc (by decide)⟩
                        refine s_X9_isHome b1 z1 _ tz1  (fun r_468 hp_490 => ?_)
                        rcases hp_490 with ⟨er_468, hp_490⟩ | ⟨er_468, hp_490⟩
                        · subst er_468
                          have f_491 : 0 ≤ (gI z1 8).toInt ∧ (gI z1 8).toInt ≤ 4 := tz1.1 8
                          have q_492 := (show (gI z1 8).toInt = (gI z 8).toInt by rw [ez1]; rfl)
                          have f_493 : 0 ≤ (gI z 8).toInt ∧ (gI z 8).toInt ≤ 4 := ht.1 8
                          refine ⟨fun _ => ?_, fun hc => absurd hc (by decide)⟩
                          refine ⟨fun c_470 => ?_, fun c_470 => ?_⟩
                          · skip
                            have f_494 : 0 ≤ (gI z1 12).toInt ∧ (gI z1 12).toInt ≤ 16 := tz1.1 12
                            have q_495 := (show (gI z1 12).toInt = (gI z 12).toInt by rw [ez1]; rfl)
                            have f_496 : 0 ≤ (gI z 12).toInt ∧ (gI z 12).toInt ≤ 16 := ht.1 12
                            have i_497 := i_ne rfl (show (16 : Int32).toInt = 16 by decide) c_470
                            refine ⟨vin rfl (by omega) (by omega), ?_⟩
                            intro z_471 ez_471
                            have tz_471 : TM z_471 := by rw [ez_471]; exact Ty_wR tz1 (show 0 ≤ b1.toInt ∧ b1.toInt ≤ 3 from by omega)
                            have oz_471 : Same [0, 1, 12] [6, 7, 8, 9, 10, 11, 12] z z_471 := oz1.r (by decide) ez_471
                            have f_498 : 0 ≤ (gI z_471 12).toInt ∧ (gI z_471 12).toInt ≤ 16 := tz_471.1 12
                            have q_499 := ((show (gI z_471 12).toInt = (gI z1 12).toInt by rw [ez_471]; rfl)).trans (show (gI z1 12).toInt = (gI z 12).toInt by rw [ez1]; rfl)
                            refine ⟨vin rfl (by omega) (by omega), ?_⟩
                            intro z_472 ez_472
                            have tz_472 : TM z_472 := by rw [ez_472]; exact Ty_wR tz_471 (show 0 ≤ b2.toInt ∧ b2.toInt ≤ 167 from by omega)
                            have oz_472 : Same [0, 1, 12] [6, 7, 8, 9, 10, 11, 12] z z_472 := oz_471.r (by decide) ez_472
                            have f_500 : 0 ≤ (gI z_472 12).toInt ∧ (gI z_472 12).toInt ≤ 16 := tz_472.1 12
                            have q_501 := (((show (gI z_472 12).toInt = (gI z_471 12).toInt by rw [ez_472]; rfl)).trans (show (gI z_471 12).toInt = (gI z1 12).toInt by rw [ez_471]; rfl)).trans (show (gI z1 12).toInt = (gI z 12).toInt by rw [ez1]; rfl)
                            refine ⟨vin rfl (by omega) (by omega), ?_⟩
                            intro z_473 ez_473
                            have tz_473 : TM z_473 := by rw [ez_473]; exact Ty_wR tz_472 (show 0 ≤ b3.toInt ∧ b3.toInt ≤ 167 from by omega)
                            have oz_473 : Same [0, 1, 12] [6, 7, 8, 9, 10, 11, 12] z z_473 := oz_472.r (by decide) ez_473
                            have f_502 : 0 ≤ (gI z_473 12).toInt ∧ (gI z_473 12).toInt ≤ 16 := tz_473.1 12
                            have q_503 := ((((show (gI z_473 12).toInt = (gI z_472 12).toInt by rw [ez_473]; rfl)).trans (show (gI z_472 12).toInt = (gI z_471 12).toInt by rw [ez_472]; rfl)).trans (show (gI z_471 12).toInt = (gI z1 12).toInt by rw [ez_471]; rfl)).trans (show (gI z1 12).toInt = (gI z 12).toInt by rw [ez1]; rfl)
                            refine ⟨vin rfl (by omega) (by omega), ?_⟩
                            intro z_474 ez_474
                            have tz_474 : TM z_474 := by rw [ez_474]; exact Ty_wR tz_473 (show 0 ≤ b4.toInt ∧ b4.toInt ≤ 4 from by omega)
                            have oz_474 : Same [0, 1, 12] [6, 7, 8, 9, 10, 11, 12] z z_474 := oz_473.r (by decide) ez_474
                            have f_504 : 0 ≤ (gI z_474 12).toInt ∧ (gI z_474 12).toInt ≤ 16 := tz_474.1 12
                            have q_505 := (((((show (gI z_474 12).toInt = (gI z_473 12).toInt by rw [ez_474]; rfl)).trans (show (gI z_473 12).toInt = (gI z_472 12).toInt by rw [ez_473]; rfl)).trans (show (gI z_472 12).toInt = (gI z_471 12).toInt by rw [ez_472]; rfl)).trans (show (gI z_471 12).toInt = (gI z1 12).toInt by rw [ez_471]; rfl)).trans (show (gI z1 12).toInt = (gI z 12).toInt by rw [ez1]; rfl)
                            refine ⟨vin (a_mul (show (4 : Int32).toInt = 4 by decide) rfl (by omega) (by omega)) (by omega) (by omega), ?_⟩
                            intro z_475 ez_475
                            have tz_475 : TM z_475 := by rw [ez_475]; exact Ty_wR tz_474 trivial
                            have oz_475 : Same [0, 1, 12] [6, 7, 8, 9, 10, 11, 12] z z_475 := oz_474.r (by decide) ez_475
                            have f_506 : 0 ≤ (gI z_475 12).toInt ∧ (gI z_475 12).toInt ≤ 16 := tz_475.1 12
                            have q_507 := ((((((show (gI z_475 12).toInt = (gI z_474 12).toInt by rw [ez_475]; rfl)).trans (show (gI z_474 12).toInt = (gI z_473 12).toInt by rw [ez_474]; rfl)).trans (show (gI z_473 12).toInt = (gI z_472 12).toInt by rw [ez_473]; rfl)).trans (show (gI z_472 12).toInt = (gI z_471 12).toInt by rw [ez_472]; rfl)).trans (show (gI z_471 12).toInt = (gI z1 12).toInt by rw [ez_471]; rfl)).trans (show (gI z1 12).toInt = (gI z 12).toInt by rw [ez1]; rfl)
                            refine ⟨vin (a_add (a_mul (show (4 : Int32).toInt = 4 by decide) rfl (by omega) (by omega)) (show (1 : Int32).toInt = 1 by decide) (by omega) (by omega)) (by omega) (by omega), ?_⟩
                            intro z_476 ez_476
                            have tz_476 : TM z_476 := by rw [ez_476]; exact Ty_wR tz_475 trivial
                            have oz_476 : Same [0, 1, 12] [6, 7, 8, 9, 10, 11, 12] z z_476 := oz_475.r (by decide) ez_476
                            have f_508 : 0 ≤ (gI z_476 12).toInt ∧ (gI z_476 12).toInt ≤ 16 := tz_476.1 12
                            have q_509 := (((((((show (gI z_476 12).toInt = (gI z_475 12).toInt by rw [ez_476]; rfl)).trans (show (gI z_475 12).toInt = (gI z_474 12).toInt by rw [ez_475]; rfl)).trans (show (gI z_474 12).toInt = (gI z_473 12).toInt by rw [ez_474]; rfl)).trans (show (gI z_473 12).toInt = (gI z_472 12).toInt by rw [ez_473]; rfl)).trans (show (gI z_472 12).toInt = (gI z_471 12).toInt by rw [ez_472]; rfl)).trans (show (gI z_471 12).toInt = (gI z1 12).toInt by rw [ez_471]; rfl)).trans (show (gI z1 12).toInt = (gI z 12).toInt by rw [ez1]; rfl)
                            refine ⟨vin (a_add (a_mul (show (4 : Int32).toInt = 4 by decide) rfl (by omega) (by omega)) (show (2 : Int32).toInt = 2 by decide) (by omega) (by omega)) (by omega) (by omega), ?_⟩
                            intro z_477 ez_477
                            have tz_477 : TM z_477 := by rw [ez_477]; exact Ty_wR tz_476 trivial
                            have oz_477 : Same [0, 1, 12] [6, 7, 8, 9, 10, 11, 12] z z_477 := oz_476.r (by decide) ez_477
                            have f_510 : 0 ≤ (gI z_477 12).toInt ∧ (gI z_477 12).toInt ≤ 16 := tz_477.1 12
                            have q_511 := ((((((((show (gI z_477 12).toInt = (gI z_476 12).toInt by rw [ez_477]; rfl)).trans (show (gI z_476 12).toInt = (gI z_475 12).toInt by rw [ez_476]; rfl)).trans (show (gI z_475 12).toInt = (gI z_474 12).toInt by rw [ez_475]; rfl)).trans (show (gI z_474 12).toInt = (gI z_473 12).toInt by rw [ez_474]; rfl)).trans (show (gI z_473 12).toInt = (gI z_472 12).toInt by rw [ez_473]; rfl)).trans (show (gI z_472 12).toInt = (gI z_471 12).toInt by rw [ez_472]; rfl)).trans (show (gI z_471 12).toInt = (gI z1 12).toInt by rw [ez_471]; rfl)).trans (show (gI z1 12).toInt = (gI z 12).toInt by rw [ez1]; rfl)
                            refine ⟨vin (a_add (a_mul (show (4 : Int32).toInt = 4 by decide) rfl (by omega) (by omega)) (show (3 : Int32).toInt = 3 by decide) (by omega) (by omega)) (by omega) (by omega), ?_⟩
                            intro z_478 ez_478
                            have tz_478 : TM z_478 := by rw [ez_478]; exact Ty_wR tz_477 trivial
                            have oz_478 : Same [0, 1, 12] [6, 7, 8, 9, 10, 11, 12] z z_478 := oz_477.r (by decide) ez_478
                            have f_512 : 0 ≤ (gI z_478 12).toInt ∧ (gI z_478 12).toInt ≤ 16 := tz_478.1 12
                            have q_513 := (((((((((show (gI z_478 12).toInt = (gI z_477 12).toInt by rw [ez_478]; rfl)).trans (show (gI z_477 12).toInt = (gI z_476 12).toInt by rw [ez_477]; rfl)).trans (show (gI z_476 12).toInt = (gI z_475 12).toInt by rw [ez_476]; rfl)).trans (show (gI z_475 12).toInt = (gI z_474 12).toInt by rw [ez_475]; rfl)).trans (show (gI z_474 12).toInt = (gI z_473 12).toInt by rw [ez_474]; rfl)).trans (show (gI z_473 12).toInt = (gI z_472 12).toInt by rw [ez_473]; rfl)).trans (show (gI z_472 12).toInt = (gI z_471 12).toInt by rw [ez_472]; rfl)).trans (show (gI z_471 12).toInt = (gI z1 12).toInt by rw [ez_471]; rfl)).trans (show (gI z1 12).toInt = (gI z 12).toInt by rw [ez1]; rfl)
                            refine ⟨vin rfl (by omega) (by omega), ?_⟩
                            intro z_479 ez_479
                            have tz_479 : TM z_479 := by rw [ez_479]; exact Ty_wR tz_478 trivial
                            have oz_479 : Same [0, 1, 12] [6, 7, 8, 9, 10, 11, 12] z z_479 := oz_478.r (by decide) ez_479
                            have f_514 : 0 ≤ (gI z_479 12).toInt ∧ (gI z_479 12).toInt ≤ 16 := tz_479.1 12
                            have q_515 := ((((((((((show (gI z_479 12).toInt = (gI z_478 12).toInt by rw [ez_479]; rfl)).trans (show (gI z_478 12).toInt = (gI z_477 12).toInt by rw [ez_478]; rfl)).trans (show (gI z_477 12).toInt = (gI z_476 12).toInt by rw [ez_477]; rfl)).trans (show (gI z_476 12).toInt = (gI z_475 12).toInt by rw [ez_476]; rfl)).trans (show (gI z_475 12).toInt = (gI z_474 12).toInt by rw [ez_475]; rfl)).trans (show (gI z_474 12).toInt = (gI z_473 12).toInt by rw [ez_474]; rfl)).trans (show (gI z_473 12).toInt = (gI z_472 12).toInt by rw [ez_473]; rfl)).trans (show (gI z_472 12).toInt = (gI z_471 12).toInt by rw [ez_472]; rfl)).trans (show (gI z_471 12).toInt = (gI z1 12).toInt by rw [ez_471]; rfl)).trans (show (gI z1 12).toInt = (gI z 12).toInt by rw [ez1]; rfl)
                            refine ⟨vin rfl (by omega) (by omega), ?_⟩
                            intro z_480 ez_480
                            have tz_480 : TM z_480 := by rw [ez_480]; exact Ty_wR tz_479 trivial
                            have oz_480 : Same [0, 1, 12] [6, 7, 8, 9, 10, 11, 12] z z_480 := oz_479.r (by decide) ez_480
                            intro z_481 ez_481
                            have f_516 : 0 ≤ (gI z_480 12).toInt ∧ (gI z_480 12).toInt ≤ 16 := tz_480.1 12
                            have q_517 := (((((((((((show (gI z_480 12).toInt = (gI z_479 12).toInt by rw [ez_480]; rfl)).trans (show (gI z_479 12).toInt = (gI z_478 12).toInt by rw [ez_479]; rfl)).trans (show (gI z_478 12).toInt = (gI z_477 12).toInt by rw [ez_478]; rfl)).trans (show (gI z_477 12).toInt = (gI z_476 12).toInt by rw [ez_477]; rfl)).trans (show (gI z_476 12).toInt = (gI z_475 12).toInt by rw [ez_476]; rfl)).trans (show (gI z_475 12).toInt = (gI z_474 12).toInt by rw [ez_475]; rfl)).trans (show (gI z_474 12).toInt = (gI z_473 12).toInt by rw [ez_474]; rfl)).trans (show (gI z_473 12).toInt = (gI z_472 12).toInt by rw [ez_473]; rfl)).trans (show (gI z_472 12).toInt = (gI z_471 12).toInt by rw [ez_472]; rfl)).trans (show (gI z_471 12).toInt = (gI z1 12).toInt by rw [ez_471]; rfl)).trans (show (gI z1 12).toInt = (gI z 12).toInt by rw [ez1]; rfl)
                            have tz_481 : TM z_481 := by rw [ez_481]; exact Ty_wI tz_480 (show 0 ≤ ((gI z_480 12) + (1 : Int32)).toInt ∧ ((gI z_480 12) + (1 : Int32)).toInt ≤ 16 from by rw [(a_add rfl (show (1 : Int32).toInt = 1 by decide) (by omega) (by omega))]; omega)
                            have oz_481 : Same [0, 1, 12] [6, 7, 8, 9, 10, 11, 12] z z_481 := oz_480.i (by decide) ez_481
                            have f_518 : 0 ≤ (gI z_481 12).toInt ∧ (gI z_481 12).toInt ≤ 16 := tz_481.1 12
                            have q_519 := (show (gI z_481 12).toInt = ((gI z_480 12) + (1 : Int32)).toInt by rw [ez_481]; rfl)
                            have q_520 : ((gI z_480 12) + (1 : Int32)).toInt = ((gI z_480 12).toInt + (1)) := (a_add rfl (show (1 : Int32).toInt = 1 by decide) (by omega) (by omega))
                            have g_521 : ((gI z_481 12) - (1 : Int32)).toInt = ((gI z_481 12).toInt - (1)) := (a_sub rfl (show (1 : Int32).toInt = 1 by decide) (by omega) (by omega))
                            refine s_X9_told ((gI z_481 12) - ((1 : Int32))) z_481 _ tz_481  (fun r_482 z_483 tz_483 o_523 hp_522 => ?_)
                            have oz_483 : Same [0, 1, 12] [6, 7, 8, 9, 10, 11, 12] z z_483 := oz_481.tr o_523 (by decide) (by decide)
                            exact hk r_482 z_483 tz_483 oz_483 trivial
                          · skip
                            have f_524 : 0 ≤ (gI z1 12).toInt ∧ (gI z1 12).toInt ≤ 16 := tz1.1 12
                            have q_525 := (show (gI z1 12).toInt = (gI z 12).toInt by rw [ez1]; rfl)
                            have f_526 : 0 ≤ (gI z 12).toInt ∧ (gI z 12).toInt ≤ 16 := ht.1 12
                            have i_527 := i_eq rfl (show (16 : Int32).toInt = 16 by decide) c_470
                            have g_528 : (-5 : Int32).toInt = -5 := by decide
                            refine s_X9_told ((-5 : Int32)) z1 _ tz1  (fun r_484 z_485 tz_485 o_530 hp_529 => ?_)
                            have oz_485 : Same [0, 1, 12] [6, 7, 8, 9, 10, 11, 12] z z_485 := oz1.tr o_530 (by decide) (by decide)
                            exact hk r_484 z_485 tz_485 oz_485 trivial
                        · subst er_468
                          have f_531 : 0 ≤ (gI z1 8).toInt ∧ (gI z1 8).toInt ≤ 4 := tz1.1 8
                          have q_532 := (show (gI z1 8).toInt = (gI z 8).toInt by rw [ez1]; rfl)
                          have f_533 : 0 ≤ (gI z 8).toInt ∧ (gI z 8).toInt ≤ 4 := ht.1 8
                          refine ⟨fun hc => absurd hc (by decide), fun _ => ?_⟩
                          have g_534 : (-2 : Int32).toInt = -2 := by decide
                          refine s_X9_told ((-2 : Int32)) z1 _ tz1  (fun r_486 z_487 tz_487 o_536 hp_535 => ?_)
                          have oz_487 : Same [0, 1, 12] [6, 7, 8, 9, 10, 11, 12] z z_487 := oz1.tr o_536 (by decide) (by decide)
                          exact hk r_486 z_487 tz_487 oz_487 trivial
                      · subst er_388
                        refine ⟨fun _ => ?_, fun hc => absurd (show ((0 : Int32)) = ((0 : Int32)) by decide) hc⟩
                        refine hK_191  ?_
                        refine hK_190 ((0 : Int32)) ?_
                        refine ⟨fun hc => absurd hc (by decide), fun _ => ?_⟩
                        have g_560 : (-1 : Int32).toInt = -1 := by decide
                        refine s_X9_told ((-1 : Int32)) z1 _ tz1  (fun r_558 z_559 tz_559 o_562 hp_561 => ?_)
                        have oz_559 : Same [0, 1, 12] [6, 7, 8, 9, 10, 11, 12] z z_559 := oz1.tr o_562 (by decide) (by decide)
                        exact hk r_558 z_559 tz_559 oz_559 trivial
                  · subst er_200
                    refine ⟨fun _ => ?_, fun hc => absurd (show ((0 : Int32)) = ((0 : Int32)) by decide) hc⟩
                    refine hK_191  ?_
                    refine hK_190 ((0 : Int32)) ?_
                    refine ⟨fun hc => absurd hc (by decide), fun _ => ?_⟩
                    have g_586 : (-1 : Int32).toInt = -1 := by decide
                    refine s_X9_told ((-1 : Int32)) z1 _ tz1  (fun r_584 z_585 tz_585 o_588 hp_587 => ?_)
                    have oz_585 : Same [0, 1, 12] [6, 7, 8, 9, 10, 11, 12] z z_585 := oz1.tr o_588 (by decide) (by decide)
                    exact hk r_584 z_585 tz_585 oz_585 trivial
              · skip
                have i_589 := i_nlt rfl (show (2 : Int32).toInt = 2 by decide) c_187
                have g_590 : (Int32.toInt64 b6).toInt = b6.toInt := (a_wide rfl)
                have g_591 : (0 : Int64).toInt = 0 := by decide
                have g_592 : (5000 : Int64).toInt = 5000 := by decide
                refine s_X9_in (Int32.toInt64 b6) ((0 : Int64)) ((5000 : Int64)) z1 _ tz1  (fun r_188 hp_593 => ?_)
                rcases hp_593 with ⟨er_188, hp_593⟩ | ⟨er_188, hp_593⟩
                · subst er_188
                  refine ⟨fun hc => absurd hc (by decide), fun _ => ?_⟩
                  refine hK_192  ?_
                  intro K_594 hK_602
                  refine ⟨fun c_599 => ?_, fun c_599 => ?_⟩
                  · skip
                    have i_603 := i_lt rfl (show (3 : Int32).toInt = 3 by decide) c_599
                    refine hK_602  ?_
                    intro K_604 hK_608
                    refine ⟨fun c_605 => ?_, fun c_605 => ?_⟩
                    · skip
                      have i_609 := i_lt rfl (show (4 : Int32).toInt = 4 by decide) c_605
                      refine hK_608  ?_
                      refine hK_190 ((1 : Int32)) ?_
                      refine ⟨fun _ => ?_, fun hc => absurd hc (by decide)⟩
                      refine s_X9_isHome b1 z1 _ tz1  (fun r_611 hp_633 => ?_)
                      rcases hp_633 with ⟨er_611, hp_633⟩ | ⟨er_611, hp_633⟩
                      · subst er_611
                        have f_634 : 0 ≤ (gI z1 8).toInt ∧ (gI z1 8).toInt ≤ 4 := tz1.1 8
                        have q_635 := (show (gI z1 8).toInt = (gI z 8).toInt by rw [ez1]; rfl)
                        have f_636 : 0 ≤ (gI z 8).toInt ∧ (gI z 8).toInt ≤ 4 := ht.1 8
                        refine ⟨fun _ => ?_, fun hc => absurd hc (by decide)⟩
                        refine ⟨fun c_613 => ?_, fun c_613 => ?_⟩
                        · skip
                          have f_637 : 0 ≤ (gI z1 12).toInt ∧ (gI z1 12).toInt ≤ 16 := tz1.1 12
                          have q_638 := (show (gI z1 12).toInt = (gI z 12).toInt by rw [ez1]; rfl)
                          have f_639 : 0 ≤ (gI z 12).toInt ∧ (gI z 12).toInt ≤ 16 := ht.1 12
                          have i_640 := i_ne rfl (show (16 : Int32).toInt = 16 by decide) c_613
                          refine ⟨vin rfl (by omega) (by omega), ?_⟩
                          intro z_614 ez_614
                          have tz_614 : TM z_614 := by rw [ez_614]; exact Ty_wR tz1 (show 0 ≤ b1.toInt ∧ b1.toInt ≤ 3 from by omega)
                          have oz_614 : Same [0, 1, 12] [6, 7, 8, 9, 10, 11, 12] z z_614 := oz1.r (by decide) ez_614
                          have f_641 : 0 ≤ (gI z_614 12).toInt ∧ (gI z_614 12).toInt ≤ 16 := tz_614.1 12
                          have q_642 := ((show (gI z_614 12).toInt = (gI z1 12).toInt by rw [ez_614]; rfl)).trans (show (gI z1 12).toInt = (gI z 12).toInt by rw [ez1]; rfl)
                          refine ⟨vin rfl (by omega) (by omega), ?_⟩
                          intro z_615 ez_615
                          have tz_615 : TM z_615 := by rw [ez_615]; exact Ty_wR tz_614 (show 0 ≤ b2.toInt ∧ b2.toInt ≤ 167 from by omega)
                          have oz_615 : Same [0, 1, 12] [6, 7, 8, 9, 10, 11, 12] z z_615 := oz_614.r (by decide) ez_615
                          have f_643 : 0 ≤ (gI z_615 12).toInt ∧ (gI z_615 12).toInt ≤ 16 := tz_615.1 12
                          have q_644 := (((show (gI z_615 12).toInt = (gI z_614 12).toInt by rw [ez_615]; rfl)).trans (show (gI z_614 12).toInt = (gI z1 12).toInt by rw [ez_614]; rfl)).trans (show (gI z1 12).toInt = (gI z 12).toInt by rw [ez1]; rfl)
                          refine ⟨vin rfl (by omega) (by omega), ?_⟩
                          intro z_616 ez_616
                          have tz_616 : TM z_616 := by rw [ez_616]; exact Ty_wR tz_615 (show 0 ≤ b3.toInt ∧ b3.toInt ≤ 167 from by omega)
                          have oz_616 : Same [0, 1, 12] [6, 7, 8, 9, 10, 11, 12] z z_616 := oz_615.r (by decide) ez_616
                          have f_645 : 0 ≤ (gI z_616 12).toInt ∧ (gI z_616 12).toInt ≤ 16 := tz_616.1 12
                          have q_646 := ((((show (gI z_616 12).toInt = (gI z_615 12).toInt by rw [ez_616]; rfl)).trans (show (gI z_615 12).toInt = (gI z_614 12).toInt by rw [ez_615]; rfl)).trans (show (gI z_614 12).toInt = (gI z1 12).toInt by rw [ez_614]; rfl)).trans (show (gI z1 12).toInt = (gI z 12).toInt by rw [ez1]; rfl)
                          refine ⟨vin rfl (by omega) (by omega), ?_⟩
                          intro z_617 ez_617
                          have tz_617 : TM z_617 := by rw [ez_617]; exact Ty_wR tz_616 (show 0 ≤ b4.toInt ∧ b4.toInt ≤ 4 from by omega)
                          have oz_617 : Same [0, 1, 12] [6, 7, 8, 9, 10, 11, 12] z z_617 := oz_616.r (by decide) ez_617
                          have f_647 : 0 ≤ (gI z_617 12).toInt ∧ (gI z_617 12).toInt ≤ 16 := tz_617.1 12
                          have q_648 := (((((show (gI z_617 12).toInt = (gI z_616 12).toInt by rw [ez_617]; rfl)).trans (show (gI z_616 12).toInt = (gI z_615 12).toInt by rw [ez_616]; rfl)).trans (show (gI z_615 12).toInt = (gI z_614 12).toInt by rw [ez_615]; rfl)).trans (show (gI z_614 12).toInt = (gI z1 12).toInt by rw [ez_614]; rfl)).trans (show (gI z1 12).toInt = (gI z 12).toInt by rw [ez1]; rfl)
                          refine ⟨vin (a_mul (show (4 : Int32).toInt = 4 by decide) rfl (by omega) (by omega)) (by omega) (by omega), ?_⟩
                          intro z_618 ez_618
                          have tz_618 : TM z_618 := by rw [ez_618]; exact Ty_wR tz_617 trivial
                          have oz_618 : Same [0, 1, 12] [6, 7, 8, 9, 10, 11, 12] z z_618 := oz_617.r (by decide) ez_618
                          have f_649 : 0 ≤ (gI z_618 12).toInt ∧ (gI z_618 12).toInt ≤ 16 := tz_618.1 12
                          have q_650 := ((((((show (gI z_618 12).toInt = (gI z_617 12).toInt by rw [ez_618]; rfl)).trans (show (gI z_617 12).toInt = (gI z_616 12).toInt by rw [ez_617]; rfl)).trans (show (gI z_616 12).toInt = (gI z_615 12).toInt by rw [ez_616]; rfl)).trans (show (gI z_615 12).toInt = (gI z_614 12).toInt by rw [ez_615]; rfl)).trans (show (gI z_614 12).toInt = (gI z1 12).toInt by rw [ez_614]; rfl)).trans (show (gI z1 12).toInt = (gI z 12).toInt by rw [ez1]; rfl)
                          refine ⟨vin (a_add (a_mul (show (4 : Int32).toInt = 4 by decide) rfl (by omega) (by omega)) (show (1 : Int32).toInt = 1 by decide) (by omega) (by omega)) (by omega) (by omega), ?_⟩
                          intro z_619 ez_619
                          have tz_619 : TM z_619 := by rw [ez_619]; exact Ty_wR tz_618 trivial
                          have oz_619 : Same [0, 1, 12] [6, 7, 8, 9, 10, 11, 12] z z_619 := oz_618.r (by decide) ez_619
                          have f_651 : 0 ≤ (gI z_619 12).toInt ∧ (gI z_619 12).toInt ≤ 16 := tz_619.1 12
                          have q_652 := (((((((show (gI z_619 12).toInt = (gI z_618 12).toInt by rw [ez_619]; rfl)).trans (show (gI z_618 12).toInt = (gI z_617 12).toInt by rw [ez_618]; rfl)).trans (show (gI z_617 12).toInt = (gI z_616 12).toInt by rw [ez_617]; rfl)).trans (show (gI z_616 12).toInt = (gI z_615 12).toInt by rw [ez_616]; rfl)).trans (show (gI z_615 12).toInt = (gI z_614 12).toInt by rw [ez_615]; rfl)).trans (show (gI z_614 12).toInt = (gI z1 12).toInt by rw [ez_614]; rfl)).trans (show (gI z1 12).toInt = (gI z 12).toInt by rw [ez1]; rfl)
                          refine ⟨vin (a_add (a_mul (show (4 : Int32).toInt = 4 by decide) rfl (by omega) (by omega)) (show (2 : Int32).toInt = 2 by decide) (by omega) (by omega)) (by omega) (by omega), ?_⟩
                          intro z_620 ez_620
                          have tz_620 : TM z_620 := by rw [ez_620]; exact Ty_wR tz_619 trivial
                          have oz_620 : Same [0, 1, 12] [6, 7, 8, 9, 10, 11, 12] z z_620 := oz_619.r (by decide) ez_620
                          have f_653 : 0 ≤ (gI z_620 12).toInt ∧ (gI z_620 12).toInt ≤ 16 := tz_620.1 12
                          have q_654 := ((((((((show (gI z_620 12).toInt = (gI z_619 12).toInt by rw [ez_620]; rfl)).trans (show (gI z_619 12).toInt = (gI z_618 12).toInt by rw [ez_619]; rfl)).trans (show (gI z_618 12).toInt = (gI z_617 12).toInt by rw [ez_618]; rfl)).trans (show (gI z_617 12).toInt = (gI z_616 12).toInt by rw [ez_617]; rfl)).trans (show (gI z_616 12).toInt = (gI z_615 12).toInt by rw [ez_616]; rfl)).trans (show (gI z_615 12).toInt = (gI z_614 12).toInt by rw [ez_615]; rfl)).trans (show (gI z_614 12).toInt = (gI z1 12).toInt by rw [ez_614]; rfl)).trans (show (gI z1 12).toInt = (gI z 12).toInt by rw [ez1]; rfl)
                          refine ⟨vin (a_add (a_mul (show (4 : Int32).toInt = 4 by decide) rfl (by omega) (by omega)) (show (3 : Int32).toInt = 3 by decide) (by omega) (by omega)) (by omega) (by omega), ?_⟩
                          intro z_621 ez_621
                          have tz_621 : TM z_621 := by rw [ez_621]; exact Ty_wR tz_620 trivial
                          have oz_621 : Same [0, 1, 12] [6, 7, 8, 9, 10, 11, 12] z z_621 := oz_620.r (by decide) ez_621
                          have f_655 : 0 ≤ (gI z_621 12).toInt ∧ (gI z_621 12).toInt ≤ 16 := tz_621.1 12
                          have q_656 := (((((((((show (gI z_621 12).toInt = (gI z_620 12).toInt by rw [ez_621]; rfl)).trans (show (gI z_620 12).toInt = (gI z_619 12).toInt by rw [ez_620]; rfl)).trans (show (gI z_619 12).toInt = (gI z_618 12).toInt by rw [ez_619]; rfl)).trans (show (gI z_618 12).toInt = (gI z_617 12).toInt by rw [ez_618]; rfl)).trans (show (gI z_617 12).toInt = (gI z_616 12).toInt by rw [ez_617]; rfl)).trans (show (gI z_616 12).toInt = (gI z_615 12).toInt by rw [ez_616]; rfl)).trans (show (gI z_615 12).toInt = (gI z_614 12).toInt by rw [ez_615]; rfl)).trans (show (gI z_614 12).toInt = (gI z1 12).toInt by rw [ez_614]; rfl)).trans (show (gI z1 12).toInt = (gI z 12).toInt by rw [ez1]; rfl)
                          refine ⟨vin rfl (by omega) (by omega), ?_⟩
                          intro z_622 ez_622
                          have tz_622 : TM z_622 := by rw [ez_622]; exact Ty_wR tz_621 trivial
                          have oz_622 : Same [0, 1, 12] [6, 7, 8, 9, 10, 11, 12] z z_622 := oz_621.r (by decide) ez_622
                          have f_657 : 0 ≤ (gI z_622 12).toInt ∧ (gI z_622 12).toInt ≤ 16 := tz_622.1 12
                          have q_658 := ((((((((((show (gI z_622 12).toInt = (gI z_621 12).toInt by rw [ez_622]; rfl)).trans (show (gI z_621 12).toInt = (gI z_620 12).toInt by rw [ez_621]; rfl)).trans (show (gI z_620 12).toInt = (gI z_619 12).toInt by rw [ez_620]; rfl)).trans (show (gI z_619 12).toInt = (gI z_618 12).toInt by rw [ez_619]; rfl)).trans (show (gI z_618 12).toInt = (gI z_617 12).toInt by rw [ez_618]; rfl)).trans (show (gI z_617 12).toInt = (gI z_616 12).toInt by rw [ez_617]; rfl)).trans (show (gI z_616 12).toInt = (gI z_615 12).toInt by rw [ez_616]; rfl)).trans (show (gI z_615 12).toInt = (gI z_614 12).toInt by rw [ez_615]; rfl)).trans (show (gI z_614 12).toInt = (gI z1 12).toInt by rw [ez_614]; rfl)).trans (show (gI z1 12).toInt = (gI z 12).toInt by rw [ez1]; rfl)
                          refine ⟨vin rfl (by omega) (by omega), ?_⟩
                          intro z_623 ez_623
                          have tz_623 : TM z_623 := by rw [ez_623]; exact Ty_wR tz_622 trivial
                          have oz_623 : Same [0, 1, 12] [6, 7, 8, 9, 10, 11, 12] z z_623 := oz_622.r (by decide) ez_623
                          intro z_624 ez_624
                          have f_659 : 0 ≤ (gI z_623 12).toInt ∧ (gI z_623 12).toInt ≤ 16 := tz_623.1 12
                          have q_660 := (((((((((((show (gI z_623 12).toInt = (gI z_622 12).toInt by rw [ez_623]; rfl)).trans (show (gI z_622 12).toInt = (gI z_621 12).toInt by rw [ez_622]; rfl)).trans (show (gI z_621 12).toInt = (gI z_620 12).toInt by rw [ez_621]; rfl)).trans (show (gI z_620 12).toInt = (gI z_619 12).toInt by rw [ez_620]; rfl)).trans (show (gI z_619 12).toInt = (gI z_618 12).toInt by rw [ez_619]; rfl)).trans (show (gI z_618 12).toInt = (gI z_617 12).toInt by rw [ez_618]; rfl)).trans (show (gI z_617 12).toInt = (gI z_616 12).toInt by rw [ez_617]; rfl)).trans (show (gI z_616 12).toInt = (gI z_615 12).toInt by rw [ez_616]; rfl)).trans (show (gI z_615 12).toInt = (gI z_614 12).toInt by rw [ez_615]; rfl)).trans (show (gI z_614 12).toInt = (gI z1 12).toInt by rw [ez_614]; rfl)).trans (show (gI z1 12).toInt = (gI z 12).toInt by rw [ez1]; rfl)
                          have tz_624 : TM z_624 := by rw [ez_624]; exact Ty_wI tz_623 (show 0 ≤ ((gI z_623 12) + (1 : Int32)).toInt ∧ ((gI z_623 12) + (1 : Int32)).toInt ≤ 16 from by rw [(a_add rfl (show (1 : Int32).toInt = 1 by decide) (by omega) (by omega))]; omega)
                          have oz_624 : Same [0, 1, 12] [6, 7, 8, 9, 10, 11, 12] z z_624 := oz_623.i (by decide) ez_624
                          have f_661 : 0 ≤ (gI z_624 12).toInt ∧ (gI z_624 12).toInt ≤ 16 := tz_624.1 12
                          have q_662 := (show (gI z_624 12).toInt = ((gI z_623 12) + (1 : Int32)).toInt by rw [ez_624]; rfl)
                          have q_663 : ((gI z_623 12) + (1 : Int32)).toInt = ((gI z_623 12).toInt + (1)) := (a_add rfl (show (1 : Int32).toInt = 1 by decide) (by omega) (by omega))
                          have g_664 : ((gI z_624 12) - (1 : Int32)).toInt = ((gI z_624 12).toInt - (1)) := (a_sub rfl (show (1 : Int32).toInt = 1 by decide) (by omega) (by omega))
                          refine s_X9_told ((gI z_624 12) - ((1 : Int32))) z_624 _ tz_624  (fun r_625 z_626 tz_626 o_666 hp_665 => ?_)
                          have oz_626 : Same [0, 1, 12] [6, 7, 8, 9, 10, 11, 12] z z_626 := oz_624.tr o_666 (by decide) (by decide)
                          exact hk r_625 z_626 tz_626 oz_626 trivial
                        · skip
                          have f_667 : 0 ≤ (gI z1 12).toInt ∧ (gI z1 12).toInt ≤ 16 := tz1.1 12
                          have q_668 := (show (gI z1 12).toInt = (gI z 12).toInt by rw [ez1]; rfl)
                          have f_669 : 0 ≤ (gI z 12).toInt ∧ (gI z 12).toInt ≤ 16 := ht.1 12
                          have i_670 := i_eq rfl (show (16 : Int32).toInt = 16 by decide) c_613
                          have g_671 : (-5 : Int32).toInt = -5 := by decide
                          refine s_X9_told ((-5 : Int32)) z1 _ tz1  (fun r_627 z_628 tz_628 o_673 hp_672 => ?_)
                          have oz_628 : Same [0, 1, 12] [6, 7, 8, 9, 10, 11, 12] z z_628 := oz1.tr o_673 (by decide) (by decide)
                          exact hk r_627 z_628 tz_628 oz_628 trivial
                      · subst er_611
                        have f_674 : 0 ≤ (gI z1 8).toInt ∧ (gI z1 8).toInt ≤ 4 := tz1.1 8
                        have q_675 := (show (gI z1 8).toInt = (gI z 8).toInt by rw [ez1]; rfl)
                        have f_676 : 0 ≤ (gI z 8).toInt ∧ (gI z 8).toInt ≤ 4 := ht.1 8
                        refine ⟨fun hc => absurd hc (by decide), fun _ => ?_⟩
                        have g_677 : (-2 : Int32).toInt = -2 := by decide
                        refine s_X9_told ((-2 : Int32)) z1 _ tz1  (fun r_629 z_630 tz_630 o_679 hp_678 => ?_)
                        have oz_630 : Same [0, 1, 12] [6, 7, 8, 9, 10, 11, 12] z z_630 := oz1.tr o_679 (by decide) (by decide)
                        exact hk r_629 z_630 tz_630 oz_630 trivial
                    · skip
                      have i_680 := i_nlt rfl (show (4 : Int32).toInt = 4 by decide) c_605
                      have g_681 : (Int32.toInt64 b8).toInt = b8.toInt := (a_wide rfl)
                      have g_682 : (0 : Int64).toInt = 0 := by decide
                      have g_683 : (5000 : Int64).toInt = 5000 := by decide
                      refine s_X9_in (Int32.toInt64 b8) ((0 : Int64)) ((5000 : Int64)) z1 _ tz1  (fun r_606 hp_684 => ?_)
                      rcases hp_684 with ⟨er_606, hp_684⟩ | ⟨er_606, hp_684⟩
                      · subst er_606
                        refine ⟨fun hc => absurd hc (by decide), fun _ => ?_⟩
                        refine hK_608  ?_
                        refine hK_190 ((1 : Int32)) ?_
                        refine ⟨fun _ => ?_, fun hc => absurd hc (by decide)⟩
                        refine s_X9_isHome b1 z1 _ tz1  (fun r_686 hp_708 => ?_)
                        rcases hp_708 with ⟨er_686, hp_708⟩ | ⟨er_686, hp_708⟩
                        · subst er_686
                          have f_709 : 0 ≤ (gI z1 8).toInt ∧ (gI z1 8).toInt ≤ 4 := tz1.1 8
                          have q_710 := (show (gI z1 8).toInt = (gI z 8).toInt by rw [ez1]; rfl)
                          have f_711 : 0 ≤ (gI z 8).toInt ∧ (gI z 8).toInt ≤ 4 := ht.1 8
                          refine ⟨fun _ => ?_, fun hc => absurd hc (by decide)⟩
                          refine ⟨fun c_688 => ?_, fun c_688 => ?_⟩
                          · skip
                            have f_712 : 0 ≤ (gI z1 12).toInt ∧ (gI z1 12).toInt ≤ 16 := tz1.1 12
                            have q_713 := (show (gI z1 12).toInt = (gI z 12).toInt by rw [ez1]; rfl)
                            have f_714 : 0 ≤ (gI z 12).toInt ∧ (gI z 12).toInt ≤ 16 := ht.1 12
                            have i_715 := i_ne rfl (show (16 : Int32).toInt = 16 by decide) c_688
                            refine ⟨vin rfl (by omega) (by omega), ?_⟩
                            intro z_689 ez_689
                            have tz_689 : TM z_689 := by rw [ez_689]; exact Ty_wR tz1 (show 0 ≤ b1.toInt ∧ b1.toInt ≤ 3 from by omega)
                            have oz_689 : Same [0, 1, 12] [6, 7, 8, 9, 10, 11, 12] z z_689 := oz1.r (by decide) ez_689
                            have f_716 : 0 ≤ (gI z_689 12).toInt ∧ (gI z_689 12).toInt ≤ 16 := tz_689.1 12
                            have q_717 := ((show (gI z_689 12).toInt = (gI z1 12).toInt by rw [ez_689]; rfl)).trans (show (gI z1 12).toInt = (gI z 12).toInt by rw [ez1]; rfl)
                            refine ⟨vin rfl (by omega) (by omega), ?_⟩
                            intro z_690 ez_690
                            have tz_690 : TM z_690 := by rw [ez_690]; exact Ty_wR tz_689 (show 0 ≤ b2.toInt ∧ b2.toInt ≤ 167 from by omega)
                            have oz_690 : Same [0, 1, 12] [6, 7, 8, 9, 10, 11, 12] z z_690 := oz_689.r (by decide) ez_690
                            have f_718 : 0 ≤ (gI z_690 12).toInt ∧ (gI z_690 12).toInt ≤ 16 := tz_690.1 12
                            have q_719 := (((show (gI z_690 12).toInt = (gI z_689 12).toInt by rw [ez_690]; rfl)).trans (show (gI z_689 12).toInt = (gI z1 12).toInt by rw [ez_689]; rfl)).trans (show (gI z1 12).toInt = (gI z 12).toInt by rw [ez1]; rfl)
                            refine ⟨vin rfl (by omega) (by omega), ?_⟩
                            intro z_691 ez_691
                            have tz_691 : TM z_691 := by rw [ez_691]; exact Ty_wR tz_690 (show 0 ≤ b3.toInt ∧ b3.toInt ≤ 167 from by omega)
                            have oz_691 : Same [0, 1, 12] [6, 7, 8, 9, 10, 11, 12] z z_691 := oz_690.r (by decide) ez_691
                            have f_720 : 0 ≤ (gI z_691 12).toInt ∧ (gI z_691 12).toInt ≤ 16 := tz_691.1 12
                            have q_721 := ((((show (gI z_691 12).toInt = (gI z_690 12).toInt by rw [ez_691]; rfl)).trans (show (gI z_690 12).toInt = (gI z_689 12).toInt by rw [ez_690]; rfl)).trans (show (gI z_689 12).toInt = (gI z1 12).toInt by rw [ez_689]; rfl)).trans (show (gI z1 12).toInt = (gI z 12).toInt by rw [ez1]; rfl)
                            refine ⟨vin rfl (by omega) (by omega), ?_⟩
                            intro z_692 ez_692
                            have tz_692 : TM z_692 := by rw [ez_692]; exact Ty_wR tz_691 (show 0 ≤ b4.toInt ∧ b4.toInt ≤ 4 from by omega)
                            have oz_692 : Same [0, 1, 12] [6, 7, 8, 9, 10, 11, 12] z z_692 := oz_691.r (by decide) ez_692
                            have f_722 : 0 ≤ (gI z_692 12).toInt ∧ (gI z_692 12).toInt ≤ 16 := tz_692.1 12
                            have q_723 := (((((show (gI z_692 12).toInt = (gI z_691 12).toInt by rw [ez_692]; rfl)).trans (show (gI z_691 12).toInt = (gI z_690 12).toInt by rw [ez_691]; rfl)).trans (show (gI z_690 12).toInt = (gI z_689 12).toInt by rw [ez_690]; rfl)).trans (show (gI z_689 12).toInt = (gI z1 12).toInt by rw [ez_689]; rfl)).trans (show (gI z1 12).toInt = (gI z 12).toInt by rw [ez1]; rfl)
                            refine ⟨vin (a_mul (show (4 : Int32).toInt = 4 by decide) rfl (by omega) (by omega)) (by omega) (by omega), ?_⟩
                            intro z_693 ez_693
                            have tz_693 : TM z_693 := by rw [ez_693]; exact Ty_wR tz_692 trivial
                            have oz_693 : Same [0, 1, 12] [6, 7, 8, 9, 10, 11, 12] z z_693 := oz_692.r (by decide) ez_693
                            have f_724 : 0 ≤ (gI z_693 12).toInt ∧ (gI z_693 12).toInt ≤ 16 := tz_693.1 12
                            have q_725 := ((((((show (gI z_693 12).toInt = (gI z_692 12).toInt by rw [ez_693]; rfl)).trans (show (gI z_692 12).toInt = (gI z_691 12).toInt by rw [ez_692]; rfl)).trans (show (gI z_691 12).toInt = (gI z_690 12).toInt by rw [ez_691]; rfl)).trans (show (gI z_690 12).toInt = (gI z_689 12).toInt by rw [ez_690]; rfl)).trans (show (gI z_689 12).toInt = (gI z1 12).toInt by rw [ez_689]; rfl)).trans (show (gI z1 12).toInt = (gI z 12).toInt by rw [ez1]; rfl)
                            refine ⟨vin (a_add (a_mul (show (4 : Int32).toInt = 4 by decide) rfl (by omega) (by omega)) (show (1 : Int32).toInt = 1 by decide) (by omega) (by omega)) (by omega) (by omega), ?_⟩
                            intro z_694 ez_694
                            have tz_694 : TM z_694 := by rw [ez_694]; exact Ty_wR tz_693 trivial
                            have oz_694 : Same [0, 1, 12] [6, 7, 8, 9, 10, 11, 12] z z_694 := oz_693.r (by decide) ez_694
                            have f_726 : 0 ≤ (gI z_694 12).toInt ∧ (gI z_694 12).toInt ≤ 16 := tz_694.1 12
                            have q_727 := (((((((show (gI z_694 12).toInt = (gI z_693 12).toInt by rw [ez_694]; rfl)).trans (show (gI z_693 12).toInt = (gI z_692 12).toInt by rw [ez_693]; rfl)).trans (show (gI z_692 12).toInt = (gI z_691 12).toInt by rw [ez_692]; rfl)).trans (show (gI z_691 12).toInt = (gI z_690 12).toInt by rw [ez_691]; rfl)).trans (show (gI z_690 12).toInt = (gI z_689 12).toInt by rw [ez_690]; rfl)).trans (show (gI z_689 12).toInt = (gI z1 12).toInt by rw [ez_689]; rfl)).trans (show (gI z1 12).toInt = (gI z 12).toInt by rw [ez1]; rfl)
                            refine ⟨vin (a_add (a_mul (show (4 : Int32).toInt = 4 by decide) rfl (by omega) (by omega)) (show (2 : Int32).toInt = 2 by decide) (by omega) (by omega)) (by omega) (by omega), ?_⟩
                            intro z_695 ez_695
                            have tz_695 : TM z_695 := by rw [ez_695]; exact Ty_wR tz_694 trivial
                            have oz_695 : Same [0, 1, 12] [6, 7, 8, 9, 10, 11, 12] z z_695 := oz_694.r (by decide) ez_695
                            have f_728 : 0 ≤ (gI z_695 12).toInt ∧ (gI z_695 12).toInt ≤ 16 := tz_695.1 12
                            have q_729 := ((((((((show (gI z_695 12).toInt = (gI z_694 12).toInt by rw [ez_695]; rfl)).trans (show (gI z_694 12).toInt = (gI z_693 12).toInt by rw [ez_694]; rfl)).trans (show (gI z_693 12).toInt = (gI z_692 12).toInt by rw [ez_693]; rfl)).trans (show (gI z_692 12).toInt = (gI z_691 12).toInt by rw [ez_692]; rfl)).trans (show (gI z_691 12).toInt = (gI z_690 12).toInt by rw [ez_691]; rfl)).trans (show (gI z_690 12).toInt = (gI z_689 12).toInt by rw [ez_690]; rfl)).trans (show (gI z_689 12).toInt = (gI z1 12).toInt by rw [ez_689]; rfl)).trans (show (gI z1 12).toInt = (gI z 12).toInt by rw [ez1]; rfl)
                            refine ⟨vin (a_add (a_mul (show (4 : Int32).toInt = 4 by decide) rfl (by omega) (by omega)) (show (3 : Int32).toInt = 3 by decide) (by omega) (by omega)) (by omega) (by omega), ?_⟩
                            intro z_696 ez_696
                            have tz_696 : TM z_696 := by rw [ez_696]; exact Ty_wR tz_695 trivial
                            have oz_696 : Same [0, 1, 12] [6, 7, 8, 9, 10, 11, 12] z z_696 := oz_695.r (by decide) ez_696
                            have f_730 : 0 ≤ (gI z_696 12).toInt ∧ (gI z_696 12).toInt ≤ 16 := tz_696.1 12
                            have q_731 := (((((((((show (gI z_696 12).toInt = (gI z_695 12).toInt by rw [ez_696]; rfl)).trans (show (gI z_695 12).toInt = (gI z_694 12).toInt by rw [ez_695]; rfl)).trans (show (gI z_694 12).toInt = (gI z_693 12).toInt by rw [ez_694]; rfl)).trans (show (gI z_693 12).toInt = (gI z_692 12).toInt by rw [ez_693]; rfl)).trans (show (gI z_692 12).toInt = (gI z_691 12).toInt by rw [ez_692]; rfl)).trans (show (gI z_691 12).toInt = (gI z_690 12).toInt by rw [ez_691]; rfl)).trans (show (gI z_690 12).toInt = (gI z_689 12).toInt by rw [ez_690]; rfl)).trans (show (gI z_689 12).toInt = (gI z1 12).toInt by rw [ez_689]; rfl)).trans (show (gI z1 12).toInt = (gI z 12).toInt by rw [ez1]; rfl)
                            refine ⟨vin rfl (by omega) (by omega), ?_⟩
                            intro z_697 ez_697
                            have tz_697 : TM z_697 := by rw [ez_697]; exact Ty_wR tz_696 trivial
                            have oz_697 : Same [0, 1, 12] [6, 7, 8, 9, 10, 11, 12] z z_697 := oz_696.r (by decide) ez_697
                            have f_732 : 0 ≤ (gI z_697 12).toInt ∧ (gI z_697 12).toInt ≤ 16 := tz_697.1 12
                            have q_733 := ((((((((((show (gI z_697 12).toInt = (gI z_696 12).toInt by rw [ez_697]; rfl)).trans (show (gI z_696 12).toInt = (gI z_695 12).toInt by rw [ez_696]; rfl)).trans (show (gI z_695 12).toInt = (gI z_694 12).toInt by rw [ez_695]; rfl)).trans (show (gI z_694 12).toInt = (gI z_693 12).toInt by rw [ez_694]; rfl)).trans (show (gI z_693 12).toInt = (gI z_692 12).toInt by rw [ez_693]; rfl)).trans (show (gI z_692 12).toInt = (gI z_691 12).toInt by rw [ez_692]; rfl)).trans (show (gI z_691 12).toInt = (gI z_690 12).toInt by rw [ez_691]; rfl)).trans (show (gI z_690 12).toInt = (gI z_689 12).toInt by rw [ez_690]; rfl)).trans (show (gI z_689 12).toInt = (gI z1 12).toInt by rw [ez_689]; rfl)).trans (show (gI z1 12).toInt = (gI z 12).toInt by rw [ez1]; rfl)
                            refine ⟨vin rfl (by omega) (by omega), ?_⟩
                            intro z_698 ez_698
                            have tz_698 : TM z_698 := by rw [ez_698]; exact Ty_wR tz_697 trivial
                            have oz_698 : Same [0, 1, 12] [6, 7, 8, 9, 10, 11, 12] z z_698 := oz_697.r (by decide) ez_698
                            intro z_699 ez_699
                            have f_734 : 0 ≤ (gI z_698 12).toInt ∧ (gI z_698 12).toInt ≤ 16 := tz_698.1 12
                            have q_735 := (((((((((((show (gI z_698 12).toInt = (gI z_697 12).toInt by rw [ez_698]; rfl)).trans (show (gI z_697 12).toInt = (gI z_696 12).toInt by rw [ez_697]; rfl)).trans (show (gI z_696 12).toInt = (gI z_695 12).toInt by rw [ez_696]; rfl)).trans (show (gI z_695 12).toInt = (gI z_694 12).toInt by rw [ez_695]; rfl)).trans (show (gI z_694 12).toInt = (gI z_693 12).toInt by rw [ez_694]; rfl)).trans (show (gI z_693 12).toInt = (gI z_692 12).toInt by rw [ez_693]; rfl)).trans (show (gI z_692 12).toInt = (gI z_691 12).toInt by rw [ez_692]; rfl)).trans (show (gI z_691 12).toInt = (gI z_690 12).toInt by rw [ez_691]; rfl)).trans (show (gI z_690 12).toInt = (gI z_689 12).toInt by rw [ez_690]; rfl)).trans (show (gI z_689 12).toInt = (gI z1 12).toInt by rw [ez_689]; rfl)).trans (show (gI z1 12).toInt = (gI z 12).toInt by rw [ez1]; rfl)
                            have tz_699 : TM z_699 := by rw [ez_699]; exact Ty_wI tz_698 (show 0 ≤ ((gI z_698 12) + (1 : Int32)).toInt ∧ ((gI z_698 12) + (1 : Int32)).toInt ≤ 16 from by rw [(a_add rfl (show (1 : Int32).toInt = 1 by decide) (by omega) (by omega))]; omega)
                            have oz_699 : Same [0, 1, 12] [6, 7, 8, 9, 10, 11, 12] z z_699 := oz_698.i (by decide) ez_699
                            have f_736 : 0 ≤ (gI z_699 12).toInt ∧ (gI z_699 12).toInt ≤ 16 := tz_699.1 12
                            have q_737 := (show (gI z_699 12).toInt = ((gI z_698 12) + (1 : Int32)).toInt by rw [ez_699]; rfl)
                            have q_738 : ((gI z_698 12) + (1 : Int32)).toInt = ((gI z_698 12).toInt + (1)) := (a_add rfl (show (1 : Int32).toInt = 1 by decide) (by omega) (by omega))
                            have g_739 : ((gI z_699 12) - (1 : Int32)).toInt = ((gI z_699 12).toInt - (1)) := (a_sub rfl (show (1 : Int32).toInt = 1 by decide) (by omega) (by omega))
                            refine s_X9_told ((gI z_699 12) - ((1 : Int32))) z_699 _ tz_699  (fun r_700 z_701 tz_701 o_741 hp_740 => ?_)
                            have oz_701 : Same [0, 1, 12] [6, 7, 8, 9, 10, 11, 12] z z_701 := oz_699.tr o_741 (by decide) (by decide)
                            exact hk r_700 z_701 tz_701 oz_701 trivial
                          · skip
                            have f_742 : 0 ≤ (gI z1 12).toInt ∧ (gI z1 12).toInt ≤ 16 := tz1.1 12
                            have q_743 := (show (gI z1 12).toInt = (gI z 12).toInt by rw [ez1]; rfl)
                            have f_744 : 0 ≤ (gI z 12).toInt ∧ (gI z 12).toInt ≤ 16 := ht.1 12
                            have i_745 := i_eq rfl (show (16 : Int32).toInt = 16 by decide) c_688
                            have g_746 : (-5 : Int32).toInt = -5 := by decide
                            refine s_X9_told ((-5 : Int32)) z1 _ tz1  (fun r_702 z_703 tz_703 o_748 hp_747 => ?_)
                            have oz_703 : Same [0, 1, 12] [6, 7, 8, 9, 10, 11, 12] z z_703 := oz1.tr o_748 (by decide) (by decide)
                            exact hk r_702 z_703 tz_703 oz_703 trivial
                        · subst er_686
                          have f_749 : 0 ≤ (gI z1 8).toInt ∧ (gI z1 8).toInt ≤ 4 := tz1.1 8
                          have q_750 := (show (gI z1 8).toInt = (gI z 8).toInt by rw [ez1]; rfl)
                          have f_751 : 0 ≤ (gI z 8).toInt ∧ (gI z 8).toInt ≤ 4 := ht.1 8
                          refine ⟨fun hc => absurd hc (by decide), fun _ => ?_⟩
                          have g_752 : (-2 : Int32).toInt = -2 := by decide
                          refine s_X9_told ((-2 : Int32)) z1 _ tz1  (fun r_704 z_705 tz_705 o_754 hp_753 => ?_)
                          have oz_705 : Same [0, 1, 12] [6, 7, 8, 9, 10, 11, 12] z z_705 := oz1.tr o_754 (by decide) (by decide)
                          exact hk r_704 z_705 tz_705 oz_705 trivial
                      · subst er_606
                        refine ⟨fun _ => ?_, fun hc => absurd (show ((0 : Int32)) = ((0 : Int32)) by decide) hc⟩
                        refine hK_191  ?_
                        refine hK_190 ((0 : Int32)) ?_
                        refine ⟨fun hc => absurd hc (by decide), fun _ => ?_⟩
                        have g_778 : (-1 : Int32).toInt = -1 := by decide
                        refine s_X9_told ((-1 : Int32)) z1 _ tz1  (fun r_776 z_777 tz_777 o_780 hp_779 => ?_)
                        have oz_777 : Same [0, 1, 12] [6, 7, 8, 9, 10, 11, 12] z z_777 := oz1.tr o_780 (by decide) (by decide)
                        exact hk r_776 z_777 tz_777 oz_777 trivial
                  · skip
                    have i_781 := i_nlt rfl (show (3 : Int32).toInt = 3 by decide) c_599
                    have g_782 : (Int32.toInt64 b7).toInt = b7.toInt := (a_wide rfl)
                    have g_783 : (0 : Int64).toInt = 0 := by decide
                    have g_784 : (5000 : Int64).toInt = 5000 := by decide
                    refine s_X9_in (Int32.toInt64 b7) ((0 : Int64)) ((5000 : Int64)) z1 _ tz1  (fun r_600 hp_785 => ?_)
                    rcases hp_785 with ⟨er_600, hp_785⟩ | ⟨er_600, hp_785⟩
                    · subst er_600
                      refine ⟨fun hc => absurd hc (by decide), fun _ => ?_⟩
                      refine hK_602  ?_
                      intro K_786 hK_790
                      refine ⟨fun c_787 => ?_, fun c_787 => ?_⟩
                      · skip
                        have i_791 := i_lt rfl (show (4 : Int32).toInt = 4 by decide) c_787
                        refine hK_790  ?_
                        refine hK_190 ((1 : Int32)) ?_
                        refine ⟨fun _ => ?_, fun hc => absurd hc (by decide)⟩
                        refine s_X9_isHome b1 z1 _ tz1  (fun r_793 hp_815 => ?_)
                        rcases hp_815 with ⟨er_793, hp_815⟩ | ⟨er_793, hp_815⟩
                        · subst er_793
                          have f_816 : 0 ≤ (gI z1 8).toInt ∧ (gI z1 8).toInt ≤ 4 := tz1.1 8
                          have q_817 := (show (gI z1 8).toInt = (gI z 8).toInt by rw [ez1]; rfl)
                          have f_818 : 0 ≤ (gI z 8).toInt ∧ (gI z 8).toInt ≤ 4 := ht.1 8
                          refine ⟨fun _ => ?_, fun hc => absurd hc (by decide)⟩
                          refine ⟨fun c_795 => ?_, fun c_795 => ?_⟩
                          · skip
                            have f_819 : 0 ≤ (gI z1 12).toInt ∧ (gI z1 12).toInt ≤ 16 := tz1.1 12
                            have q_820 := (show (gI z1 12).toInt = (gI z 12).toInt by rw [ez1]; rfl)
                            have f_821 : 0 ≤ (gI z 12).toInt ∧ (gI z 12).toInt ≤ 16 := ht.1 12
                            have i_822 := i_ne rfl (show (16 : Int32).toInt = 16 by decide) c_795
                            refine ⟨vin rfl (by omega) (by omega), ?_⟩
                            intro z_796 ez_796
                            have tz_796 : TM z_796 := by rw [ez_796]; exact Ty_wR tz1 (show 0 ≤ b1.toInt ∧ b1.toInt ≤ 3 from by omega)
                            have oz_796 : Same [0, 1, 12] [6, 7, 8, 9, 10, 11, 12] z z_796 := oz1.r (by decide) ez_796
                            have f_823 : 0 ≤ (gI z_796 12).toInt ∧ (gI z_796 12).toInt ≤ 16 := tz_796.1 12
                            have q_824 := ((show (gI z_796 12).toInt = (gI z1 12).toInt by rw [ez_796]; rfl)).trans (show (gI z1 12).toInt = (gI z 12).toInt by rw [ez1]; rfl)
                            refine ⟨vin rfl (by omega) (by omega), ?_⟩
                            intro z_797 ez_797
                            have tz_797 : TM z_797 := by rw [ez_797]; exact Ty_wR tz_796 (show 0 ≤ b2.toInt ∧ b2.toInt ≤ 167 from by omega)
                            have oz_797 : Same [0, 1, 12] [6, 7, 8, 9, 10, 11, 12] z z_797 := oz_796.r (by decide) ez_797
                            have f_825 : 0 ≤ (gI z_797 12).toInt ∧ (gI z_797 12).toInt ≤ 16 := tz_797.1 12
                            have q_826 := (((show (gI z_797 12).toInt = (gI z_796 12).toInt by rw [ez_797]; rfl)).trans (show (gI z_796 12).toInt = (gI z1 12).toInt by rw [ez_796]; rfl)).trans (show (gI z1 12).toInt = (gI z 12).toInt by rw [ez1]; rfl)
                            refine ⟨vin rfl (by omega) (by omega), ?_⟩
                            intro z_798 ez_798
                            have tz_798 : TM z_798 := by rw [ez_798]; exact Ty_wR tz_797 (show 0 ≤ b3.toInt ∧ b3.toInt ≤ 167 from by omega)
                            have oz_798 : Same [0, 1, 12] [6, 7, 8, 9, 10, 11, 12] z z_798 := oz_797.r (by decide) ez_798
                            have f_827 : 0 ≤ (gI z_798 12).toInt ∧ (gI z_798 12).toInt ≤ 16 := tz_798.1 12
                            have q_828 := ((((show (gI z_798 12).toInt = (gI z_797 12).toInt by rw [ez_798]; rfl)).trans (show (gI z_797 12).toInt = (gI z_796 12).toInt by rw [ez_797]; rfl)).trans (show (gI z_796 12).toInt = (gI z1 12).toInt by rw [ez_796]; rfl)).trans (show (gI z1 12).toInt = (gI z 12).toInt by rw [ez1]; rfl)
                            refine ⟨vin rfl (by omega) (by omega), ?_⟩
                            intro z_799 ez_799
                            have tz_799 : TM z_799 := by rw [ez_799]; exact Ty_wR tz_798 (show 0 ≤ b4.toInt ∧ b4.toInt ≤ 4 from by omega)
                            have oz_799 : Same [0, 1, 12] [6, 7, 8, 9, 10, 11, 12] z z_799 := oz_798.r (by decide) ez_799
                            have f_829 : 0 ≤ (gI z_799 12).toInt ∧ (gI z_799 12).toInt ≤ 16 := tz_799.1 12
                            have q_830 := (((((show (gI z_799 12).toInt = (gI z_798 12).toInt by rw [ez_799]; rfl)).trans (show (gI z_798 12).toInt = (gI z_797 12).toInt by rw [ez_798]; rfl)).trans (show (gI z_797 12).toInt = (gI z_796 12).toInt by rw [ez_797]; rfl)).trans (show (gI z_796 12).toInt = (gI z1 12).toInt by rw [ez_796]; rfl)).trans (show (gI z1 12).toInt = (gI z 12).toInt by rw [ez1]; rfl)
                            refine ⟨vin (a_mul (show (4 : Int32).toInt = 4 by decide) rfl (by omega) (by omega)) (by omega) (by omega), ?_⟩
                            intro z_800 ez_800
                            have tz_800 : TM z_800 := by rw [ez_800]; exact Ty_wR tz_799 trivial
                            have oz_800 : Same [0, 1, 12] [6, 7, 8, 9, 10, 11, 12] z z_800 := oz_799.r (by decide) ez_800
                            have f_831 : 0 ≤ (gI z_800 12).toInt ∧ (gI z_800 12).toInt ≤ 16 := tz_800.1 12
                            have q_832 := ((((((show (gI z_800 12).toInt = (gI z_799 12).toInt by rw [ez_800]; rfl)).trans (show (gI z_799 12).toInt = (gI z_798 12).toInt by rw [ez_799]; rfl)).trans (show (gI z_798 12).toInt = (gI z_797 12).toInt by rw [ez_798]; rfl)).trans (show (gI z_797 12).toInt = (gI z_796 12).toInt by rw [ez_797]; rfl)).trans (show (gI z_796 12).toInt = (gI z1 12).toInt by rw [ez_796]; rfl)).trans (show (gI z1 12).toInt = (gI z 12).toInt by rw [ez1]; rfl)
                            refine ⟨vin (a_add (a_mul (show (4 : Int32).toInt = 4 by decide) rfl (by omega) (by omega)) (show (1 : Int32).toInt = 1 by decide) (by omega) (by omega)) (by omega) (by omega), ?_⟩
                            intro z_801 ez_801
                            have tz_801 : TM z_801 := by rw [ez_801]; exact Ty_wR tz_800 trivial
                            have oz_801 : Same [0, 1, 12] [6, 7, 8, 9, 10, 11, 12] z z_801 := oz_800.r (by decide) ez_801
                            have f_833 : 0 ≤ (gI z_801 12).toInt ∧ (gI z_801 12).toInt ≤ 16 := tz_801.1 12
                            have q_834 := (((((((show (gI z_801 12).toInt = (gI z_800 12).toInt by rw [ez_801]; rfl)).trans (show (gI z_800 12).toInt = (gI z_799 12).toInt by rw [ez_800]; rfl)).trans (show (gI z_799 12).toInt = (gI z_798 12).toInt by rw [ez_799]; rfl)).trans (show (gI z_798 12).toInt = (gI z_797 12).toInt by rw [ez_798]; rfl)).trans (show (gI z_797 12).toInt = (gI z_796 12).toInt by rw [ez_797]; rfl)).trans (show (gI z_796 12).toInt = (gI z1 12).toInt by rw [ez_796]; rfl)).trans (show (gI z1 12).toInt = (gI z 12).toInt by rw [ez1]; rfl)
                            refine ⟨vin (a_add (a_mul (show (4 : Int32).toInt = 4 by decide) rfl (by omega) (by omega)) (show (2 : Int32).toInt = 2 by decide) (by omega) (by omega)) (by omega) (by omega), ?_⟩
                            intro z_802 ez_802
                            have tz_802 : TM z_802 := by rw [ez_802]; exact Ty_wR tz_801 trivial
                            have oz_802 : Same [0, 1, 12] [6, 7, 8, 9, 10, 11, 12] z z_802 := oz_801.r (by decide) ez_802
                            have f_835 : 0 ≤ (gI z_802 12).toInt ∧ (gI z_802 12).toInt ≤ 16 := tz_802.1 12
                            have q_836 := ((((((((show (gI z_802 12).toInt = (gI z_801 12).toInt by rw [ez_802]; rfl)).trans (show (gI z_801 12).toInt = (gI z_800 12).toInt by rw [ez_801]; rfl)).trans (show (gI z_800 12).toInt = (gI z_799 12).toInt by rw [ez_800]; rfl)).trans (show (gI z_799 12).toInt = (gI z_798 12).toInt by rw [ez_799]; rfl)).trans (show (gI z_798 12).toInt = (gI z_797 12).toInt by rw [ez_798]; rfl)).trans (show (gI z_797 12).toInt = (gI z_796 12).toInt by rw [ez_797]; rfl)).trans (show (gI z_796 12).toInt = (gI z1 12).toInt by rw [ez_796]; rfl)).trans (show (gI z1 12).toInt = (gI z 12).toInt by rw [ez1]; rfl)
                            refine ⟨vin (a_add (a_mul (show (4 : Int32).toInt = 4 by decide) rfl (by omega) (by omega)) (show (3 : Int32).toInt = 3 by decide) (by omega) (by omega)) (by omega) (by omega), ?_⟩
                            intro z_803 ez_803
                            have tz_803 : TM z_803 := by rw [ez_803]; exact Ty_wR tz_802 trivial
                            have oz_803 : Same [0, 1, 12] [6, 7, 8, 9, 10, 11, 12] z z_803 := oz_802.r (by decide) ez_803
                            have f_837 : 0 ≤ (gI z_803 12).toInt ∧ (gI z_803 12).toInt ≤ 16 := tz_803.1 12
                            have q_838 := (((((((((show (gI z_803 12).toInt = (gI z_802 12).toInt by rw [ez_803]; rfl)).trans (show (gI z_802 12).toInt = (gI z_801 12).toInt by rw [ez_802]; rfl)).trans (show (gI z_801 12).toInt = (gI z_800 12).toInt by rw [ez_801]; rfl)).trans (show (gI z_800 12).toInt = (gI z_799 12).toInt by rw [ez_800]; rfl)).trans (show (gI z_799 12).toInt = (gI z_798 12).toInt by rw [ez_799]; rfl)).trans (show (gI z_798 12).toInt = (gI z_797 12).toInt by rw [ez_798]; rfl)).trans (show (gI z_797 12).toInt = (gI z_796 12).toInt by rw [ez_797]; rfl)).trans (show (gI z_796 12).toInt = (gI z1 12).toInt by rw [ez_796]; rfl)).trans (show (gI z1 12).toInt = (gI z 12).toInt by rw [ez1]; rfl)
                            refine ⟨vin rfl (by omega) (by omega), ?_⟩
                            intro z_804 ez_804
                            have tz_804 : TM z_804 := by rw [ez_804]; exact Ty_wR tz_803 trivial
                            have oz_804 : Same [0, 1, 12] [6, 7, 8, 9, 10, 11, 12] z z_804 := oz_803.r (by decide) ez_804
                            have f_839 : 0 ≤ (gI z_804 12).toInt ∧ (gI z_804 12).toInt ≤ 16 := tz_804.1 12
                            have q_840 := ((((((((((show (gI z_804 12).toInt = (gI z_803 12).toInt by rw [ez_804]; rfl)).trans (show (gI z_803 12).toInt = (gI z_802 12).toInt by rw [ez_803]; rfl)).trans (show (gI z_802 12).toInt = (gI z_801 12).toInt by rw [ez_802]; rfl)).trans (show (gI z_801 12).toInt = (gI z_800 12).toInt by rw [ez_801]; rfl)).trans (show (gI z_800 12).toInt = (gI z_799 12).toInt by rw [ez_800]; rfl)).trans (show (gI z_799 12).toInt = (gI z_798 12).toInt by rw [ez_799]; rfl)).trans (show (gI z_798 12).toInt = (gI z_797 12).toInt by rw [ez_798]; rfl)).trans (show (gI z_797 12).toInt = (gI z_796 12).toInt by rw [ez_797]; rfl)).trans (show (gI z_796 12).toInt = (gI z1 12).toInt by rw [ez_796]; rfl)).trans (show (gI z1 12).toInt = (gI z 12).toInt by rw [ez1]; rfl)
                            refine ⟨vin rfl (by omega) (by omega), ?_⟩
                            intro z_805 ez_805
                            have tz_805 : TM z_805 := by rw [ez_805]; exact Ty_wR tz_804 trivial
                            have oz_805 : Same [0, 1, 12] [6, 7, 8, 9, 10, 11, 12] z z_805 := oz_804.r (by decide) ez_805
                            intro z_806 ez_806
                            have f_841 : 0 ≤ (gI z_805 12).toInt ∧ (gI z_805 12).toInt ≤ 16 := tz_805.1 12
                            have q_842 := (((((((((((show (gI z_805 12).toInt = (gI z_804 12).toInt by rw [ez_805]; rfl)).trans (show (gI z_804 12).toInt = (gI z_803 12).toInt by rw [ez_804]; rfl)).trans (show (gI z_803 12).toInt = (gI z_802 12).toInt by rw [ez_803]; rfl)).trans (show (gI z_802 12).toInt = (gI z_801 12).toInt by rw [ez_802]; rfl)).trans (show (gI z_801 12).toInt = (gI z_800 12).toInt by rw [ez_801]; rfl)).trans (show (gI z_800 12).toInt = (gI z_799 12).toInt by rw [ez_800]; rfl)).trans (show (gI z_799 12).toInt = (gI z_798 12).toInt by rw [ez_799]; rfl)).trans (show (gI z_798 12).toInt = (gI z_797 12).toInt by rw [ez_798]; rfl)).trans (show (gI z_797 12).toInt = (gI z_796 12).toInt by rw [ez_797]; rfl)).trans (show (gI z_796 12).toInt = (gI z1 12).toInt by rw [ez_796]; rfl)).trans (show (gI z1 12).toInt = (gI z 12).toInt by rw [ez1]; rfl)
                            have tz_806 : TM z_806 := by rw [ez_806]; exact Ty_wI tz_805 (show 0 ≤ ((gI z_805 12) + (1 : Int32)).toInt ∧ ((gI z_805 12) + (1 : Int32)).toInt ≤ 16 from by rw [(a_add rfl (show (1 : Int32).toInt = 1 by decide) (by omega) (by omega))]; omega)
                            have oz_806 : Same [0, 1, 12] [6, 7, 8, 9, 10, 11, 12] z z_806 := oz_805.i (by decide) ez_806
                            have f_843 : 0 ≤ (gI z_806 12).toInt ∧ (gI z_806 12).toInt ≤ 16 := tz_806.1 12
                            have q_844 := (show (gI z_806 12).toInt = ((gI z_805 12) + (1 : Int32)).toInt by rw [ez_806]; rfl)
                            have q_845 : ((gI z_805 12) + (1 : Int32)).toInt = ((gI z_805 12).toInt + (1)) := (a_add rfl (show (1 : Int32).toInt = 1 by decide) (by omega) (by omega))
                            have g_846 : ((gI z_806 12) - (1 : Int32)).toInt = ((gI z_806 12).toInt - (1)) := (a_sub rfl (show (1 : Int32).toInt = 1 by decide) (by omega) (by omega))
                            refine s_X9_told ((gI z_806 12) - ((1 : Int32))) z_806 _ tz_806  (fun r_807 z_808 tz_808 o_848 hp_847 => ?_)
                            have oz_808 : Same [0, 1, 12] [6, 7, 8, 9, 10, 11, 12] z z_808 := oz_806.tr o_848 (by decide) (by decide)
                            exact hk r_807 z_808 tz_808 oz_808 trivial
                          · skip
                            have f_849 : 0 ≤ (gI z1 12).toInt ∧ (gI z1 12).toInt ≤ 16 := tz1.1 12
                            have q_850 := (show (gI z1 12).toInt = (gI z 12).toInt by rw [ez1]; rfl)
                            have f_851 : 0 ≤ (gI z 12).toInt ∧ (gI z 12).toInt ≤ 16 := ht.1 12
                            have i_852 := i_eq rfl (show (16 : Int32).toInt = 16 by decide) c_795
                            have g_853 : (-5 : Int32).toInt = -5 := by decide
                            refine s_X9_told ((-5 : Int32)) z1 _ tz1  (fun r_809 z_810 tz_810 o_855 hp_854 => ?_)
                            have oz_810 : Same [0, 1, 12] [6, 7, 8, 9, 10, 11, 12] z z_810 := oz1.tr o_855 (by decide) (by decide)
                            exact hk r_809 z_810 tz_810 oz_810 trivial
                        · subst er_793
                          have f_856 : 0 ≤ (gI z1 8).toInt ∧ (gI z1 8).toInt ≤ 4 := tz1.1 8
                          have q_857 := (show (gI z1 8).toInt = (gI z 8).toInt by rw [ez1]; rfl)
                          have f_858 : 0 ≤ (gI z 8).toInt ∧ (gI z 8).toInt ≤ 4 := ht.1 8
                          refine ⟨fun hc => absurd hc (by decide), fun _ => ?_⟩
                          have g_859 : (-2 : Int32).toInt = -2 := by decide
                          refine s_X9_told ((-2 : Int32)) z1 _ tz1  (fun r_811 z_812 tz_812 o_861 hp_860 => ?_)
                          have oz_812 : Same [0, 1, 12] [6, 7, 8, 9, 10, 11, 12] z z_812 := oz1.tr o_861 (by decide) (by decide)
                          exact hk r_811 z_812 tz_812 oz_812 trivial
                      · skip
                        have i_862 := i_nlt rfl (show (4 : Int32).toInt = 4 by decide) c_787
                        have g_863 : (Int32.toInt64 b8).toInt = b8.toInt := (a_wide rfl)
                        have g_864 : (0 : Int64).toInt = 0 := by decide
                        have g_865 : (5000 : Int64).toInt = 5000 := by decide
                        refine s_X9_in (Int32.toInt64 b8) ((0 : Int64)) ((5000 : Int64)) z1 _ tz1  (fun r_788 hp_866 => ?_)
                        rcases hp_866 with ⟨er_788, hp_866⟩ | ⟨er_788, hp_866⟩
                        · subst er_788
                          refine ⟨fun hc => absurd hc (by decide), fun _ => ?_⟩
                          refine hK_790  ?_
                          refine hK_190 ((1 : Int32)) ?_
                          refine ⟨fun _ => ?_, fun hc => absurd hc (by decide)⟩
                          refine s_X9_isHome b1 z1 _ tz1  (fun r_868 hp_890 => ?_)
                          rcases hp_890 with ⟨er_868, hp_890⟩ | ⟨er_868, hp_890⟩
                          · subst er_868
                            have f_891 : 0 ≤ (gI z1 8).toInt ∧ (gI z1 8).toInt ≤ 4 := tz1.1 8
                            have q_892 := (show (gI z1 8).toInt = (gI z 8).toInt by rw [ez1]; rfl)
                            have f_893 : 0 ≤ (gI z 8).toInt ∧ (gI z 8).toInt ≤ 4 := ht.1 8
                            refine ⟨fun _ => ?_, fun hc => absurd hc (by decide)⟩
                            refine ⟨fun c_870 => ?_, fun c_870 => ?_⟩
                            · skip
                              have f_894 : 0 ≤ (gI z1 12).toInt ∧ (gI z1 12).toInt ≤ 16 := tz1.1 12
                              have q_895 := (show (gI z1 12).toInt = (gI z 12).toInt by rw [ez1]; rfl)
                              have f_896 : 0 ≤ (gI z 12).toInt ∧ (gI z 12).toInt ≤ 16 := ht.1 12
                              have i_897 := i_ne rfl (show (16 : Int32).toInt = 16 by decide) c_870
                              refine ⟨vin rfl (by omega) (by omega), ?_⟩
                              intro z_871 ez_871
                              have tz_871 : TM z_871 := by rw [ez_871]; exact Ty_wR tz1 (show 0 ≤ b1.toInt ∧ b1.toInt ≤ 3 from by omega)
                              have oz_871 : Same [0, 1, 12] [6, 7, 8, 9, 10, 11, 12] z z_871 := oz1.r (by decide) ez_871
                              have f_898 : 0 ≤ (gI z_871 12).toInt ∧ (gI z_871 12).toInt ≤ 16 := tz_871.1 12
                              have q_899 := ((show (gI z_871 12).toInt = (gI z1 12).toInt by rw [ez_871]; rfl)).trans (show (gI z1 12).toInt = (gI z 12).toInt by rw [ez1]; rfl)
                              refine ⟨vin rfl (by omega) (by omega), ?_⟩
                              intro z_872 ez_872
                              have tz_872 : TM z_872 := by rw [ez_872]; exact Ty_wR tz_871 (show 0 ≤ b2.toInt ∧ b2.toInt ≤ 167 from by omega)
                              have oz_872 : Same [0, 1, 12] [6, 7, 8, 9, 10, 11, 12] z z_872 := oz_871.r (by decide) ez_872
                              have f_900 : 0 ≤ (gI z_872 12).toInt ∧ (gI z_872 12).toInt ≤ 16 := tz_872.1 12
                              have q_901 := (((show (gI z_872 12).toInt = (gI z_871 12).toInt by rw [ez_872]; rfl)).trans (show (gI z_871 12).toInt = (gI z1 12).toInt by rw [ez_871]; rfl)).trans (show (gI z1 12).toInt = (gI z 12).toInt by rw [ez1]; rfl)
                              refine ⟨vin rfl (by omega) (by omega), ?_⟩
                              intro z_873 ez_873
                              have tz_873 : TM z_873 := by rw [ez_873]; exact Ty_wR tz_872 (show 0 ≤ b3.toInt ∧ b3.toInt ≤ 167 from by omega)
                              have oz_873 : Same [0, 1, 12] [6, 7, 8, 9, 10, 11, 12] z z_873 := oz_872.r (by decide) ez_873
                              have f_902 : 0 ≤ (gI z_873 12).toInt ∧ (gI z_873 12).toInt ≤ 16 := tz_873.1 12
                              have q_903 := ((((show (gI z_873 12).toInt = (gI z_872 12).toInt by rw [ez_873]; rfl)).trans (show (gI z_872 12).toInt = (gI z_871 12).toInt by rw [ez_872]; rfl)).trans (show (gI z_871 12).toInt = (gI z1 12).toInt by rw [ez_871]; rfl)).trans (show (gI z1 12).toInt = (gI z 12).toInt by rw [ez1]; rfl)
                              refine ⟨vin rfl (by omega) (by omega), ?_⟩
                              intro z_874 ez_874
                              have tz_874 : TM z_874 := by rw [ez_874]; exact Ty_wR tz_873 (show 0 ≤ b4.toInt ∧ b4.toInt ≤ 4 from by omega)
                              have oz_874 : Same [0, 1, 12] [6, 7, 8, 9, 10, 11, 12] z z_874 := oz_873.r (by decide) ez_874
                              have f_904 : 0 ≤ (gI z_874 12).toInt ∧ (gI z_874 12).toInt ≤ 16 := tz_874.1 12
                              have q_905 := (((((show (gI z_874 12).toInt = (gI z_873 12).toInt by rw [ez_874]; rfl)).trans (show (gI z_873 12).toInt = (gI z_872 12).toInt by rw [ez_873]; rfl)).trans (show (gI z_872 12).toInt = (gI z_871 12).toInt by rw [ez_872]; rfl)).trans (show (gI z_871 12).toInt = (gI z1 12).toInt by rw [ez_871]; rfl)).trans (show (gI z1 12).toInt = (gI z 12).toInt by rw [ez1]; rfl)
                              refine ⟨vin (a_mul (show (4 : Int32).toInt = 4 by decide) rfl (by omega) (by omega)) (by omega) (by omega), ?_⟩
                              intro z_875 ez_875
                              have tz_875 : TM z_875 := by rw [ez_875]; exact Ty_wR tz_874 trivial
                              have oz_875 : Same [0, 1, 12] [6, 7, 8, 9, 10, 11, 12] z z_875 := oz_874.r (by decide) ez_875
                              have f_906 : 0 ≤ (gI z_875 12).toInt ∧ (gI z_875 12).toInt ≤ 16 := tz_875.1 12
                              have q_907 := ((((((show (gI z_875 12).toInt = (gI z_874 12).toInt by rw [ez_875]; rfl)).trans (show (gI z_874 12).toInt = (gI z_873 12).toInt by rw [ez_874]; rfl)).trans (show (gI z_873 12).toInt = (gI z_872 12).toInt by rw [ez_873]; rfl)).trans (show (gI z_872 12).toInt = (gI z_871 12).toInt by rw [ez_872]; rfl)).trans (show (gI z_871 12).toInt = (gI z1 12).toInt by rw [ez_871]; rfl)).trans (show (gI z1 12).toInt = (gI z 12).toInt by rw [ez1]; rfl)
                              refine ⟨vin (a_add (a_mul (show (4 : Int32).toInt = 4 by decide) rfl (by omega) (by omega)) (show (1 : Int32).toInt = 1 by decide) (by omega) (by omega)) (by omega) (by omega), ?_⟩
                              intro z_876 ez_876
                              have tz_876 : TM z_876 := by rw [ez_876]; exact Ty_wR tz_875 trivial
                              have oz_876 : Same [0, 1, 12] [6, 7, 8, 9, 10, 11, 12] z z_876 := oz_875.r (by decide) ez_876
                              have f_908 : 0 ≤ (gI z_876 12).toInt ∧ (gI z_876 12).toInt ≤ 16 := tz_876.1 12
                              have q_909 := (((((((show (gI z_876 12).toInt = (gI z_875 12).toInt by rw [ez_876]; rfl)).trans (show (gI z_875 12).toInt = (gI z_874 12).toInt by rw [ez_875]; rfl)).trans (show (gI z_874 12).toInt = (gI z_873 12).toInt by rw [ez_874]; rfl)).trans (show (gI z_873 12).toInt = (gI z_872 12).toInt by rw [ez_873]; rfl)).trans (show (gI z_872 12).toInt = (gI z_871 12).toInt by rw [ez_872]; rfl)).trans (show (gI z_871 12).toInt = (gI z1 12).toInt by rw [ez_871]; rfl)).trans (show (gI z1 12).toInt = (gI z 12).toInt by rw [ez1]; rfl)
                              refine ⟨vin (a_add (a_mul (show (4 : Int32).toInt = 4 by decide) rfl (by omega) (by omega)) (show (2 : Int32).toInt = 2 by decide) (by omega) (by omega)) (by omega) (by omega), ?_⟩
                              intro z_877 ez_877
                              have tz_877 : TM z_877 := by rw [ez_877]; exact Ty_wR tz_876 trivial
                              have oz_877 : Same [0, 1, 12] [6, 7, 8, 9, 10, 11, 12] z z_877 := oz_876.r (by decide) ez_877
                              have f_910 : 0 ≤ (gI z_877 12).toInt ∧ (gI z_877 12).toInt ≤ 16 := tz_877.1 12
                              have q_911 := ((((((((show (gI z_877 12).toInt = (gI z_876 12).toInt by rw [ez_877]; rfl)).trans (show (gI z_876 12).toInt = (gI z_875 12).toInt by rw [ez_876]; rfl)).trans (show (gI z_875 12).toInt = (gI z_874 12).toInt by rw [ez_875]; rfl)).trans (show (gI z_874 12).toInt = (gI z_873 12).toInt by rw [ez_874]; rfl)).trans (show (gI z_873 12).toInt = (gI z_872 12).toInt by rw [ez_873]; rfl)).trans (show (gI z_872 12).toInt = (gI z_871 12).toInt by rw [ez_872]; rfl)).trans (show (gI z_871 12).toInt = (gI z1 12).toInt by rw [ez_871]; rfl)).trans (show (gI z1 12).toInt = (gI z 12).toInt by rw [ez1]; rfl)
                              refine ⟨vin (a_add (a_mul (show (4 : Int32).toInt = 4 by decide) rfl (by omega) (by omega)) (show (3 : Int32).toInt = 3 by decide) (by omega) (by omega)) (by omega) (by omega), ?_⟩
                              intro z_878 ez_878
                              have tz_878 : TM z_878 := by rw [ez_878]; exact Ty_wR tz_877 trivial
                              have oz_878 : Same [0, 1, 12] [6, 7, 8, 9, 10, 11, 12] z z_878 := oz_877.r (by decide) ez_878
                              have f_912 : 0 ≤ (gI z_878 12).toInt ∧ (gI z_878 12).toInt ≤ 16 := tz_878.1 12
                              have q_913 := (((((((((show (gI z_878 12).toInt = (gI z_877 12).toInt by rw [ez_878]; rfl)).trans (show (gI z_877 12).toInt = (gI z_876 12).toInt by rw [ez_877]; rfl)).trans (show (gI z_876 12).toInt = (gI z_875 12).toInt by rw [ez_876]; rfl)).trans (show (gI z_875 12).toInt = (gI z_874 12).toInt by rw [ez_875]; rfl)).trans (show (gI z_874 12).toInt = (gI z_873 12).toInt by rw [ez_874]; rfl)).trans (show (gI z_873 12).toInt = (gI z_872 12).toInt by rw [ez_873]; rfl)).trans (show (gI z_872 12).toInt = (gI z_871 12).toInt by rw [ez_872]; rfl)).trans (show (gI z_871 12).toInt = (gI z1 12).toInt by rw [ez_871]; rfl)).trans (show (gI z1 12).toInt = (gI z 12).toInt by rw [ez1]; rfl)
                              refine ⟨vin rfl (by omega) (by omega), ?_⟩
                              intro z_879 ez_879
                              have tz_879 : TM z_879 := by rw [ez_879]; exact Ty_wR tz_878 trivial
                              have oz_879 : Same [0, 1, 12] [6, 7, 8, 9, 10, 11, 12] z z_879 := oz_878.r (by decide) ez_879
                              have f_914 : 0 ≤ (gI z_879 12).toInt ∧ (gI z_879 12).toInt ≤ 16 := tz_879.1 12
                              have q_915 := ((((((((((show (gI z_879 12).toInt = (gI z_878 12).toInt by rw [ez_879]; rfl)).trans (show (gI z_878 12).toInt = (gI z_877 12).toInt by rw [ez_878]; rfl)).trans (show (gI z_877 12).toInt = (gI z_876 12).toInt by rw [ez_877]; rfl)).trans (show (gI z_876 12).toInt = (gI z_875 12).toInt by rw [ez_876]; rfl)).trans (show (gI z_875 12).toInt = (gI z_874 12).toInt by rw [ez_875]; rfl)).trans (show (gI z_874 12).toInt = (gI z_873 12).toInt by rw [ez_874]; rfl)).trans (show (gI z_873 12).toInt = (gI z_872 12).toInt by rw [ez_873]; rfl)).trans (show (gI z_872 12).toInt = (gI z_871 12).toInt by rw [ez_872]; rfl)).trans (show (gI z_871 12).toInt = (gI z1 12).toInt by rw [ez_871]; rfl)).trans (show (gI z1 12).toInt = (gI z 12).toInt by rw [ez1]; rfl)
                              refine ⟨vin rfl (by omega) (by omega), ?_⟩
                              intro z_880 ez_880
                              have tz_880 : TM z_880 := by rw [ez_880]; exact Ty_wR tz_879 trivial
                              have oz_880 : Same [0, 1, 12] [6, 7, 8, 9, 10, 11, 12] z z_880 := oz_879.r (by decide) ez_880
                              intro z_881 ez_881
                              have f_916 : 0 ≤ (gI z_880 12).toInt ∧ (gI z_880 12).toInt ≤ 16 := tz_880.1 12
                              have q_917 := (((((((((((show (gI z_880 12).toInt = (gI z_879 12).toInt by rw [ez_880]; rfl)).trans (show (gI z_879 12).toInt = (gI z_878 12).toInt by rw [ez_879]; rfl)).trans (show (gI z_878 12).toInt = (gI z_877 12).toInt by rw [ez_878]; rfl)).trans (show (gI z_877 12).toInt = (gI z_876 12).toInt by rw [ez_877]; rfl)).trans (show (gI z_876 12).toInt = (gI z_875 12).toInt by rw [ez_876]; rfl)).trans (show (gI z_875 12).toInt = (gI z_874 12).toInt by rw [ez_875]; rfl)).trans (show (gI z_874 12).toInt = (gI z_873 12).toInt by rw [ez_874]; rfl)).trans (show (gI z_873 12).toInt = (gI z_872 12).toInt by rw [ez_873]; rfl)).trans (show (gI z_872 12).toInt = (gI z_871 12).toInt by rw [ez_872]; rfl)).trans (show (gI z_871 12).toInt = (gI z1 12).toInt by rw [ez_871]; rfl)).trans (show (gI z1 12).toInt = (gI z 12).toInt by rw [ez1]; rfl)
                              have tz_881 : TM z_881 := by rw [ez_881]; exact Ty_wI tz_880 (show 0 ≤ ((gI z_880 12) + (1 : Int32)).toInt ∧ ((gI z_880 12) + (1 : Int32)).toInt ≤ 16 from by rw [(a_add rfl (show (1 : Int32).toInt = 1 by decide) (by omega) (by omega))]; omega)
                              have oz_881 : Same [0, 1, 12] [6, 7, 8, 9, 10, 11, 12] z z_881 := oz_880.i (by decide) ez_881
                              have f_918 : 0 ≤ (gI z_881 12).toInt ∧ (gI z_881 12).toInt ≤ 16 := tz_881.1 12
                              have q_919 := (show (gI z_881 12).toInt = ((gI z_880 12) + (1 : Int32)).toInt by rw [ez_881]; rfl)
                              have q_920 : ((gI z_880 12) + (1 : Int32)).toInt = ((gI z_880 12).toInt + (1)) := (a_add rfl (show (1 : Int32).toInt = 1 by decide) (by omega) (by omega))
                              have g_921 : ((gI z_881 12) - (1 : Int32)).toInt = ((gI z_881 12).toInt - (1)) := (a_sub rfl (show (1 : Int32).toInt = 1 by decide) (by omega) (by omega))
                              refine s_X9_told ((gI z_881 12) - ((1 : Int32))) z_881 _ tz_881  (fun r_882 z_883 tz_883 o_923 hp_922 => ?_)
                              have oz_883 : Same [0, 1, 12] [6, 7, 8, 9, 10, 11, 12] z z_883 := oz_881.tr o_923 (by decide) (by decide)
                              exact hk r_882 z_883 tz_883 oz_883 trivial
                            · skip
                              have f_924 : 0 ≤ (gI z1 12).toInt ∧ (gI z1 12).toInt ≤ 16 := tz1.1 12
                              have q_925 := (show (gI z1 12).toInt = (gI z 12).toInt by rw [ez1]; rfl)
                              have f_926 : 0 ≤ (gI z 12).toInt ∧ (gI z 12).toInt ≤ 16 := ht.1 12
                              have i_927 := i_eq rfl (show (16 : Int32).toInt = 16 by decide) c_870
                              have g_928 : (-5 : Int32).toInt = -5 := by decide
                              refine s_X9_told ((-5 : Int32)) z1 _ tz1  (fun r_884 z_885 tz_885 o_930 hp_929 => ?_)
                              have oz_885 : Same [0, 1, 12] [6, 7, 8, 9, 10, 11, 12] z z_885 := oz1.tr o_930 (by decide) (by decide)
                              exact hk r_884 z_885 tz_885 oz_885 trivial
                          · subst er_868
                            have f_931 : 0 ≤ (gI z1 8).toInt ∧ (gI z1 8).toInt ≤ 4 := tz1.1 8
                            have q_932 := (show (gI z1 8).toInt = (gI z 8).toInt by rw [ez1]; rfl)
                            have f_933 : 0 ≤ (gI z 8).toInt ∧ (gI z 8).toInt ≤ 4 := ht.1 8
                            refine ⟨fun hc => absurd hc (by decide), fun _ => ?_⟩
                            have g_934 : (-2 : Int32).toInt = -2 := by decide
                            refine s_X9_told ((-2 : Int32)) z1 _ tz1  (fun r_886 z_887 tz_887 o_936 hp_935 => ?_)
                            have oz_887 : Same [0, 1, 12] [6, 7, 8, 9, 10, 11, 12] z z_887 := oz1.tr o_936 (by decide) (by decide)
                            exact hk r_886 z_887 tz_887 oz_887 trivial
                        · subst er_788
                          refine ⟨fun _ => ?_, fun hc => absurd (show ((0 : Int32)) = ((0 : Int32)) by decide) hc⟩
                          refine hK_191  ?_
                          refine hK_190 ((0 : Int32)) ?_
                          refine ⟨fun hc => absurd hc (by decide), fun _ => ?_⟩
                          have g_960 : (-1 : Int32).toInt = -1 := by decide
                          refine s_X9_told ((-1 : Int32)) z1 _ tz1  (fun r_958 z_959 tz_959 o_962 hp_961 => ?_)
                          have oz_959 : Same [0, 1, 12] [6, 7, 8, 9, 10, 11, 12] z z_959 := oz1.tr o_962 (by decide) (by decide)
                          exact hk r_958 z_959 tz_959 oz_959 trivial
                    · subst er_600
                      refine ⟨fun _ => ?_, fun hc => absurd (show ((0 : Int32)) = ((0 : Int32)) by decide) hc⟩
                      refine hK_191  ?_
                      refine hK_190 ((0 : Int32)) ?_
                      refine ⟨fun hc => absurd hc (by decide), fun _ => ?_⟩
                      have g_986 : (-1 : Int32).toInt = -1 := by decide
                      refine s_X9_told ((-1 : Int32)) z1 _ tz1  (fun r_984 z_985 tz_985 o_988 hp_987 => ?_)
                      have oz_985 : Same [0, 1, 12] [6, 7, 8, 9, 10, 11, 12] z z_985 := oz1.tr o_988 (by decide) (by decide)
                      exact hk r_984 z_985 tz_985 oz_985 trivial
                · subst er_188
                  refine ⟨fun _ => ?_, fun hc => absurd (show ((0 : Int32)) = ((0 : Int32)) by decide) hc⟩
                  refine hK_191  ?_
                  refine hK_190 ((0 : Int32)) ?_
                  refine ⟨fun hc => absurd hc (by decide), fun _ => ?_⟩
                  have g_1012 : (-1 : Int32).toInt = -1 := by decide
                  refine s_X9_told ((-1 : Int32)) z1 _ tz1  (fun r_1010 z_1011 tz_1011 o_1014 hp_1013 => ?_)
                  have oz_1011 : Same [0, 1, 12] [6, 7, 8, 9, 10, 11, 12] z z_1011 := oz1.tr o_1014 (by decide) (by decide)
                  exact hk r_1010 z_1011 tz_1011 oz_1011 trivial
            · subst er60
              refine ⟨fun _ => ?_, fun hc => absurd (show ((0 : Int32)) = ((0 : Int32)) by decide) hc⟩
              refine hK_3  ?_
              refine hK_2 ((0 : Int32)) ?_
              intro K_1015 hK_1054
              intro K_1040 hK_1055
              refine ⟨fun _ => ?_, fun hc => absurd (show ((0 : Int32)) = ((0 : Int32)) by decide) hc⟩
              refine hK_1055  ?_
              refine hK_1054 ((0 : Int32)) ?_
              refine ⟨fun hc => absurd hc (by decide), fun _ => ?_⟩
              have g_1079 : (-1 : Int32).toInt = -1 := by decide
              refine s_X9_told ((-1 : Int32)) z1 _ tz1  (fun r_1077 z_1078 tz_1078 o_1081 hp_1080 => ?_)
              have oz_1078 : Same [0, 1, 12] [6, 7, 8, 9, 10, 11, 12] z z_1078 := oz1.tr o_1081 (by decide) (by decide)
              exact hk r_1077 z_1078 tz_1078 oz_1078 trivial
          · subst er57
            refine ⟨fun _ => ?_, fun hc => absurd (show ((0 : Int32)) = ((0 : Int32)) by decide) hc⟩
            refine hK_3  ?_
            refine hK_2 ((0 : Int32)) ?_
            intro K_1082 hK_1121
            intro K_1107 hK_1122
            refine ⟨fun _ => ?_, fun hc => absurd (show ((0 : Int32)) = ((0 : Int32)) by decide) hc⟩
            refine hK_1122  ?_
            refine hK_1121 ((0 : Int32)) ?_
            refine ⟨fun hc => absurd hc (by decide), fun _ => ?_⟩
            have g_1146 : (-1 : Int32).toInt = -1 := by decide
            refine s_X9_told ((-1 : Int32)) z1 _ tz1  (fun r_1144 z_1145 tz_1145 o_1148 hp_1147 => ?_)
            have oz_1145 : Same [0, 1, 12] [6, 7, 8, 9, 10, 11, 12] z z_1145 := oz1.tr o_1148 (by decide) (by decide)
            exact hk r_1144 z_1145 tz_1145 oz_1145 trivial
    · subst er52
      refine ⟨fun _ => ?_, fun hc => absurd (show ((0 : Int32)) = ((0 : Int32)) by decide) hc⟩
      refine hK_3  ?_
      refine hK_2 ((0 : Int32)) ?_
      intro K_1149 hK_1188
      intro K_1174 hK_1189
      refine ⟨fun _ => ?_, fun hc => absurd (show ((0 : Int32)) = ((0 : Int32)) by decide) hc⟩
      refine hK_1189  ?_
      refine hK_1188 ((0 : Int32)) ?_
      refine ⟨fun hc => absurd hc (by decide), fun _ => ?_⟩
      have g_1213 : (-1 : Int32).toInt = -1 := by decide
      refine s_X9_told ((-1 : Int32)) z1 _ tz1  (fun r_1211 z_1212 tz_1212 o_1215 hp_1214 => ?_)
      have oz_1212 : Same [0, 1, 12] [6, 7, 8, 9, 10, 11, 12] z z_1212 := oz1.tr o_1215 (by decide) (by decide)
      exact hk r_1211 z_1212 tz_1212 oz_1212 trivial
  · subst er3
    intro K5 hK_1216
    intro K49 hK_1217
    refine ⟨fun _ => ?_, fun hc => absurd (show ((0 : Int32)) = ((0 : Int32)) by decide) hc⟩
    refine hK_1217  ?_
    refine hK_1216 ((0 : Int32)) ?_
    intro K_1218 hK_1257
    intro K_1243 hK_1258
    refine ⟨fun _ => ?_, fun hc => absurd (show ((0 : Int32)) = ((0 : Int32)) by decide) hc⟩
    refine hK_1258  ?_
    refine hK_1257 ((0 : Int32)) ?_
    refine ⟨fun hc => absurd hc (by decide), fun _ => ?_⟩
    have g_1282 : (-1 : Int32).toInt = -1 := by decide
    refine s_X9_told ((-1 : Int32)) z1 _ tz1  (fun r_1280 z_1281 tz_1281 o_1284 hp_1283 => ?_)
    have oz_1281 : Same [0, 1, 12] [6, 7, 8, 9, 10, 11, 12] z z_1281 := oz1.tr o_1284 (by decide) (by decide)
    exact hk r_1280 z_1281 tz_1281 oz_1281 trivial

set_option maxHeartbeats 2000000 in
theorem s_X9_isJob (b1 : Int32) (z : St) (P : Int32 → Prop) (ht : TM z)  (hk : ∀ r : Int32, (r = 1 ∧ (0 ≤ b1.toInt ∧ b1.toInt < (gI z 12).toInt)) ∨ (r = 0 ∧ (b1.toInt < 0 ∨ (gI z 12).toInt ≤ b1.toInt)) → P r) : wp_X9_isJob b1 z P := by
  unfold wp_X9_isJob
  have g_1 : (Int32.toInt64 b1).toInt = b1.toInt := (a_wide rfl)
  have g_2 : (0 : Int64).toInt = 0 := by decide
  have f_3 : 0 ≤ (gI z 12).toInt ∧ (gI z 12).toInt ≤ 16 := ht.1 12
  have g_4 : ((Int32.toInt64 (gI z 12)) - (1 : Int64)).toInt = ((gI z 12).toInt - (1)) := (a_subL (a_wide rfl) (show (1 : Int64).toInt = 1 by decide) (by omega) (by omega))
  refine s_X9_in (Int32.toInt64 b1) ((0 : Int64)) ((Int32.toInt64 (gI z 12)) - ((1 : Int64))) z _ ht  (fun r2 hp_5 => ?_)
  rcases hp_5 with ⟨er2, hp_5⟩ | ⟨er2, hp_5⟩
  · subst er2
    have g_6 : (1 : Int32).toInt = 1 := by decide
    refine ⟨Or.inr rfl, ?_⟩
    exact hk ((1 : Int32)) (Or.inl ⟨rfl, (by omega)⟩)
  · subst er2
    have g_7 : (0 : Int32).toInt = 0 := by decide
    refine ⟨Or.inl rfl, ?_⟩
    exact hk ((0 : Int32)) (Or.inr ⟨rfl, (by omega)⟩)

set_option maxHeartbeats 2000000 in
theorem s_X9_of (b1 : Int32) (b2 : Int32) (z : St) (P : Int32 → St → Prop) (ht : TM z)  (hk : ∀ (r : Int32) (z2 : St), TM z2 → Same [0] [] z z2 → (True) → P r z2) : wp_X9_of b1 b2 z P := by
  unfold wp_X9_of
  intro z1 ez1
  have tz1 : TM z1 := by rw [ez1]; exact Ty_wI ht trivial
  have oz1 : Same [0] [] z z1 := (Same.rf (z := z)).i (by decide) ez1
  refine s_X9_isJob b1 z1 _ tz1  (fun r3 hp_1 => ?_)
  rcases hp_1 with ⟨er3, hp_1⟩ | ⟨er3, hp_1⟩
  · subst er3
    have f_2 : 0 ≤ (gI z1 12).toInt ∧ (gI z1 12).toInt ≤ 16 := tz1.1 12
    have q_3 := (show (gI z1 12).toInt = (gI z 12).toInt by rw [ez1]; rfl)
    have f_4 : 0 ≤ (gI z 12).toInt ∧ (gI z 12).toInt ≤ 16 := ht.1 12
    refine ⟨fun _ => ?_, fun hc => absurd hc (by decide)⟩
    refine ⟨fun c5_0 => ?_, fun c5_1 => ?_, fun c5_2 => ?_, fun c5_3 => ?_, fun c5_4 => ?_, fun c5_5 => ?_, fun c5_d => ?_⟩
    · skip
      refine ⟨vin rfl (by omega) (by omega), ?_⟩
      have f_5 : 0 ≤ (gF z1 6 b1.toNatClampNeg).toInt ∧ (gF z1 6 b1.toNatClampNeg).toInt ≤ 3 := tz1.2 6 _
      have q_6 := (show (gF z1 6 b1.toNatClampNeg).toInt = (gF z 6 b1.toNatClampNeg).toInt by rw [ez1]; rfl)
      have f_7 : 0 ≤ (gF z 6 b1.toNatClampNeg).toInt ∧ (gF z 6 b1.toNatClampNeg).toInt ≤ 3 := ht.2 6 _
      exact hk (gF z1 6 b1.toNatClampNeg) z1 tz1 oz1 trivial
    · skip
      refine ⟨vin rfl (by omega) (by omega), ?_⟩
      have f_8 : 0 ≤ (gF z1 7 b1.toNatClampNeg).toInt ∧ (gF z1 7 b1.toNatClampNeg).toInt ≤ 167 := tz1.2 7 _
      have q_9 := (show (gF z1 7 b1.toNatClampNeg).toInt = (gF z 7 b1.toNatClampNeg).toInt by rw [ez1]; rfl)
      have f_10 : 0 ≤ (gF z 7 b1.toNatClampNeg).toInt ∧ (gF z 7 b1.toNatClampNeg).toInt ≤ 167 := ht.2 7 _
      exact hk (gF z1 7 b1.toNatClampNeg) z1 tz1 oz1 trivial
    · skip
      refine ⟨vin rfl (by omega) (by omega), ?_⟩
      have f_11 : 0 ≤ (gF z1 8 b1.toNatClampNeg).toInt ∧ (gF z1 8 b1.toNatClampNeg).toInt ≤ 167 := tz1.2 8 _
      have q_12 := (show (gF z1 8 b1.toNatClampNeg).toInt = (gF z 8 b1.toNatClampNeg).toInt by rw [ez1]; rfl)
      have f_13 : 0 ≤ (gF z 8 b1.toNatClampNeg).toInt ∧ (gF z 8 b1.toNatClampNeg).toInt ≤ 167 := ht.2 8 _
      exact hk (gF z1 8 b1.toNatClampNeg) z1 tz1 oz1 trivial
    · skip
      refine ⟨vin rfl (by omega) (by omega), ?_⟩
      have f_14 : 0 ≤ (gF z1 9 b1.toNatClampNeg).toInt ∧ (gF z1 9 b1.toNatClampNeg).toInt ≤ 4 := tz1.2 9 _
      have q_15 := (show (gF z1 9 b1.toNatClampNeg).toInt = (gF z 9 b1.toNatClampNeg).toInt by rw [ez1]; rfl)
      have f_16 : 0 ≤ (gF z 9 b1.toNatClampNeg).toInt ∧ (gF z 9 b1.toNatClampNeg).toInt ≤ 4 := ht.2 9 _
      exact hk (gF z1 9 b1.toNatClampNeg) z1 tz1 oz1 trivial
    · skip
      refine ⟨vin rfl (by omega) (by omega), ?_⟩
      have q_17 := (show (gF z1 11 b1.toNatClampNeg).toInt = (gF z 11 b1.toNatClampNeg).toInt by rw [ez1]; rfl)
      exact hk (gF z1 11 b1.toNatClampNeg) z1 tz1 oz1 trivial
    · skip
      refine ⟨vin rfl (by omega) (by omega), ?_⟩
      refine ⟨fun c6 => ?_, fun c6 => ?_⟩
      · skip
        have q_18 := (show (gF z1 11 b1.toNatClampNeg).toInt = (gF z 11 b1.toNatClampNeg).toInt by rw [ez1]; rfl)
        have i_19 := i_ne rfl (show (0 : Int32).toInt = 0 by decide) c6
        refine ⟨vin rfl (by omega) (by omega), ?_⟩
        have q_20 := (show (gF z1 12 b1.toNatClampNeg).toInt = (gF z 12 b1.toNatClampNeg).toInt by rw [ez1]; rfl)
        exact hk (gF z1 12 b1.toNatClampNeg) z1 tz1 oz1 trivial
      · skip
        have q_21 := (show (gF z1 11 b1.toNatClampNeg).toInt = (gF z 11 b1.toNatClampNeg).toInt by rw [ez1]; rfl)
        have i_22 := i_eq rfl (show (0 : Int32).toInt = 0 by decide) c6
        have g_23 : (-1 : Int32).toInt = -1 := by decide
        exact hk ((-1 : Int32)) z1 tz1 oz1 trivial
    · skip
      refine ⟨vin rfl (by omega) (by omega), ?_⟩
      have g_24 : (Int32.toInt64 b2).toInt = b2.toInt := (a_wide rfl)
      have g_25 : (10 : Int64).toInt = 10 := by decide
      have f_26 : 0 ≤ (gF z1 9 b1.toNatClampNeg).toInt ∧ (gF z1 9 b1.toNatClampNeg).toInt ≤ 4 := tz1.2 9 _
      have q_27 := (show (gF z1 9 b1.toNatClampNeg).toInt = (gF z 9 b1.toNatClampNeg).toInt by rw [ez1]; rfl)
      have f_28 : 0 ≤ (gF z 9 b1.toNatClampNeg).toInt ∧ (gF z 9 b1.toNatClampNeg).toInt ≤ 4 := ht.2 9 _
      have g_29 : ((9 : Int64) + (Int32.toInt64 (gF z1 9 b1.toNatClampNeg))).toInt = ((9) + (gF z1 9 b1.toNatClampNeg).toInt) := (a_addL (show (9 : Int64).toInt = 9 by decide) (a_wide rfl) (by omega) (by omega))
      refine s_X9_in (Int32.toInt64 b2) ((10 : Int64)) (((9 : Int64)) + (Int32.toInt64 (gF z1 9 b1.toNatClampNeg))) z1 _ tz1  (fun r8 hp_30 => ?_)
      rcases hp_30 with ⟨er8, hp_30⟩ | ⟨er8, hp_30⟩
      · subst er8
        refine ⟨fun hc => absurd hc (by decide), fun _ => ?_⟩
        refine ⟨vin (a_sub (a_add (a_mul (show (4 : Int32).toInt = 4 by decide) rfl (by omega) (by omega)) rfl (by omega) (by omega)) (show (10 : Int32).toInt = 10 by decide) (by omega) (by omega)) (by omega) (by omega), ?_⟩
        have q_31 := (show (gF z1 10 ((((4 : Int32) * b1) + b2) - (10 : Int32)).toNatClampNeg).toInt = (gF z 10 ((((4 : Int32) * b1) + b2) - (10 : Int32)).toNatClampNeg).toInt by rw [ez1]; rfl)
        exact hk (gF z1 10 (((((4 : Int32)) * b1) + b2) - ((10 : Int32))).toNatClampNeg) z1 tz1 oz1 trivial
      · subst er8
        refine ⟨fun _ => ?_, fun hc => absurd (show ((0 : Int32)) = ((0 : Int32)) by decide) hc⟩
        have g_32 : (-1 : Int32).toInt = -1 := by decide
        exact hk ((-1 : Int32)) z1 tz1 oz1 trivial
  · subst er3
    have f_33 : 0 ≤ (gI z1 12).toInt ∧ (gI z1 12).toInt ≤ 16 := tz1.1 12
    have q_34 := (show (gI z1 12).toInt = (gI z 12).toInt by rw [ez1]; rfl)
    have f_35 : 0 ≤ (gI z 12).toInt ∧ (gI z 12).toInt ≤ 16 := ht.1 12
    refine ⟨fun hc => absurd hc (by decide), fun _ => ?_⟩
    have g_36 : (-1 : Int32).toInt = -1 := by decide
    exact hk ((-1 : Int32)) z1 tz1 oz1 trivial

set_option maxHeartbeats 2000000 in
theorem s_X9_isQuiet (b1 : Int32) (b2 : Int32) (z : St) (P : Int32 → Prop) (ht : TM z)  (hk : ∀ r : Int32, (r = 1 ∧ (True)) ∨ (r = 0 ∧ (True)) → P r) : wp_X9_isQuiet b1 b2 z P := by
  unfold wp_X9_isQuiet
  intro x1 ex1
  have ix1 : x1.toInt = (b2 - b2 / (24 : Int32) * (24 : Int32)).toInt := by rw [ex1]
  intro K4 hK_1
  have L_2 : ∀ (n : Nat) (v2 : Int32) (v3 : Int32), (0 ≤ v3.toInt) → (v3.toInt ≤ 20) → (v2 = 0 ∨ v2 = 1) → (20 - v3.toInt).toNat < n → K4 v2 v3 := by
    intro n
    induction n with
    | zero => intro v2 v3 w_3 w_4 w_5 m_7; omega
    | succ n ih_6 =>
      intro v2 v3 w_3 w_4 w_5 m_7
      refine hK_1 v2 v3 ?_
      refine ⟨fun c5 => ?_, fun c5 => ?_⟩
      · skip
        have f_8 : 0 ≤ (gI z 22).toInt ∧ (gI z 22).toInt ≤ 20 := ht.1 22
        have i_9 := i_le rfl rfl c5
        have hb9 : v2 = 0 ∨ v2 = 1 := by first | assumption | omega
        refine ⟨hb9, ?_⟩
        rcases hb9 with e9 | e9
        · exact hk v2 (Or.inr ⟨e9, trivial⟩)
        · exact hk v2 (Or.inl ⟨e9, trivial⟩)
      · skip
        have f_10 : 0 ≤ (gI z 22).toInt ∧ (gI z 22).toInt ≤ 20 := ht.1 22
        have i_11 := i_nle rfl rfl c5
        refine ⟨vin rfl (by omega) (by omega), ?_⟩
        intro K7 hK_12
        refine ⟨fun c9 => ?_, fun c9 => ?_⟩
        · skip
          have i_13 := i_ne rfl (show (0 : Int32).toInt = 0 by decide) c9
          refine hK_12 v2 ?_
          intro y_14 ey_14
          have iy_14 : y_14.toInt = (v3.toInt + (1)) := by rw [ey_14]; exact (a_add rfl (show (1 : Int32).toInt = 1 by decide) (by omega) (by omega))
          exact ih_6 v2 y_14 (by omega) (by omega) (by first | omega | assumption | decide) (by omega)
        · skip
          have i_15 := i_eq rfl (show (0 : Int32).toInt = 0 by decide) c9
          refine ⟨vin rfl (by omega) (by omega), ?_⟩
          refine ⟨fun c10 => ?_, fun c10 => ?_⟩
          · skip
            have i_16 := i_ne rfl rfl c10
            refine hK_12 v2 ?_
            intro y_17 ey_17
            have iy_17 : y_17.toInt = (v3.toInt + (1)) := by rw [ey_17]; exact (a_add rfl (show (1 : Int32).toInt = 1 by decide) (by omega) (by omega))
            exact ih_6 v2 y_17 (by omega) (by omega) (by first | omega | assumption | decide) (by omega)
          · skip
            have i_18 := i_eq rfl rfl c10
            intro K12 hK_19
            intro K13 hK_20
            refine ⟨fun c14 => ?_, fun c14 => ?_⟩
            · skip
              have i_21 := i_ne rfl (show (0 : Int32).toInt = 0 by decide) c14
              refine hK_20  ?_
              refine hK_19 ((1 : Int32)) ?_
              refine hK_12 ((1 : Int32)) ?_
              intro y_22 ey_22
              have iy_22 : y_22.toInt = (v3.toInt + (1)) := by rw [ey_22]; exact (a_add rfl (show (1 : Int32).toInt = 1 by decide) (by omega) (by omega))
              have g_23 : (1 : Int32).toInt = 1 := by decide
              exact ih_6 ((1 : Int32)) y_22 (by omega) (by omega) (by first | omega | assumption | decide) (by omega)
            · skip
              have i_24 := i_eq rfl (show (0 : Int32).toInt = 0 by decide) c14
              refine ⟨vin rfl (by omega) (by omega), ?_⟩
              refine ⟨vin rfl (by omega) (by omega), ?_⟩
              intro K15 hK_25
              refine ⟨fun c16 => ?_, fun c16 => ?_⟩
              · skip
                have i_26 := i_lt rfl rfl c16
                refine ⟨vin rfl (by omega) (by omega), ?_⟩
                refine ⟨fun c17 => ?_, fun c17 => ?_⟩
                · skip
                  have i_27 := i_le rfl rfl c17
                  refine hK_20  ?_
                  refine hK_19 ((1 : Int32)) ?_
                  refine hK_12 ((1 : Int32)) ?_
                  intro y_28 ey_28
                  have iy_28 : y_28.toInt = (v3.toInt + (1)) := by rw [ey_28]; exact (a_add rfl (show (1 : Int32).toInt = 1 by decide) (by omega) (by omega))
                  have g_29 : (1 : Int32).toInt = 1 := by decide
                  exact ih_6 ((1 : Int32)) y_28 (by omega) (by omega) (by first | omega | assumption | decide) (by omega)
                · skip
                  have i_30 := i_nle rfl rfl c17
                  refine ⟨vin rfl (by omega) (by omega), ?_⟩
                  refine ⟨fun c18 => ?_, fun c18 => ?_⟩
                  · skip
                    have i_31 := i_lt rfl rfl c18
                    refine hK_25  ?_
                    refine hK_19 ((0 : Int32)) ?_
                    refine hK_12 ((0 : Int32)) ?_
                    intro y_32 ey_32
                    have iy_32 : y_32.toInt = (v3.toInt + (1)) := by rw [ey_32]; exact (a_add rfl (show (1 : Int32).toInt = 1 by decide) (by omega) (by omega))
                    have g_33 : (0 : Int32).toInt = 0 := by decide
                    exact ih_6 ((0 : Int32)) y_32 (by omega) (by omega) (by first | omega | assumption | decide) (by omega)
                  · skip
                    have i_34 := i_nlt rfl rfl c18
                    refine hK_20  ?_
                    refine hK_19 ((1 : Int32)) ?_
                    refine hK_12 ((1 : Int32)) ?_
                    intro y_35 ey_35
                    have iy_35 : y_35.toInt = (v3.toInt + (1)) := by rw [ey_35]; exact (a_add rfl (show (1 : Int32).toInt = 1 by decide) (by omega) (by omega))
                    have g_36 : (1 : Int32).toInt = 1 := by decide
                    exact ih_6 ((1 : Int32)) y_35 (by omega) (by omega) (by first | omega | assumption | decide) (by omega)
              · skip
                have i_37 := i_nlt rfl rfl c16
                refine ⟨vin rfl (by omega) (by omega), ?_⟩
                refine ⟨vin rfl (by omega) (by omega), ?_⟩
                have g_38 : (Int32.toInt64 x1).toInt = x1.toInt := (a_wide rfl)
                have g_39 : (Int32.toInt64 (gF z 16 v3.toNatClampNeg)).toInt = (gF z 16 v3.toNatClampNeg).toInt := (a_wide rfl)
                have g_40 : (Int32.toInt64 (gF z 17 v3.toNatClampNeg)).toInt = (gF z 17 v3.toNatClampNeg).toInt := (a_wide rfl)
                refine s_X9_in (Int32.toInt64 x1) (Int32.toInt64 (gF z 16 v3.toNatClampNeg)) (Int32.toInt64 (gF z 17 v3.toNatClampNeg)) z _ ht  (fun r20 hp_41 => ?_)
                rcases hp_41 with ⟨er20, hp_41⟩ | ⟨er20, hp_41⟩
                · subst er20
                  refine ⟨fun hc => absurd hc (by decide), fun _ => ?_⟩
                  refine hK_20  ?_
                  refine hK_19 ((1 : Int32)) ?_
                  refine hK_12 ((1 : Int32)) ?_
                  intro y_42 ey_42
                  have iy_42 : y_42.toInt = (v3.toInt + (1)) := by rw [ey_42]; exact (a_add rfl (show (1 : Int32).toInt = 1 by decide) (by omega) (by omega))
                  have g_43 : (1 : Int32).toInt = 1 := by decide
                  exact ih_6 ((1 : Int32)) y_42 (by omega) (by omega) (by first | omega | assumption | decide) (by omega)
                · subst er20
                  refine ⟨fun _ => ?_, fun hc => absurd (show ((0 : Int32)) = ((0 : Int32)) by decide) hc⟩
                  refine hK_25  ?_
                  refine hK_19 ((0 : Int32)) ?_
                  refine hK_12 ((0 : Int32)) ?_
                  intro y_44 ey_44
                  have iy_44 : y_44.toInt = (v3.toInt + (1)) := by rw [ey_44]; exact (a_add rfl (show (1 : Int32).toInt = 1 by decide) (by omega) (by omega))
                  have g_45 : (0 : Int32).toInt = 0 := by decide
                  exact ih_6 ((0 : Int32)) y_44 (by omega) (by omega) (by first | omega | assumption | decide) (by omega)
  have g_46 : (0 : Int32).toInt = 0 := by decide
  have g_47 : (0 : Int32).toInt = 0 := by decide
  exact L_2 ((20 - (0 : Int32).toInt).toNat + 1) ((0 : Int32)) ((0 : Int32)) (by omega) (by omega) (by first | omega | assumption | decide) (by omega)

set_option maxHeartbeats 2000000 in
theorem s_X9_nowOf (b1 : Int32) (z : St) (P : Int32 → St → Prop) (ht : TM z) (h0 : 0 ≤ b1.toInt ∧ b1.toInt ≤ 167) (hk : ∀ (r : Int32) (z2 : St), TM z2 → Same [21] [13] z z2 → (True) → P r z2) : wp_X9_nowOf b1 z P := by
  unfold wp_X9_nowOf
  intro K1 hK_1
  refine ⟨fun c3 => ?_, fun c3 => ?_⟩
  · skip
    have i_2 := i_ne rfl (show (0 : Int32).toInt = 0 by decide) c3
    refine hK_1 z ?_
    refine ⟨vin rfl (by omega) (by omega), ?_⟩
    exact hk (gF z 13 b1.toNatClampNeg) z ht (Same.rf (z := z)) trivial
  · skip
    have i_3 := i_eq rfl (show (0 : Int32).toInt = 0 by decide) c3
    intro K5 hK_4
    have L_5 : ∀ (n : Nat) (v4 : Int32) (z6 : St), TM z6 → Same [21] [13] z z6 → (0 ≤ v4.toInt) → (v4.toInt ≤ 168) → (168 - v4.toInt).toNat < n → K5 v4 z6 := by
      intro n
      induction n with
      | zero => intro v4 z6 tz6 ocz6 w_6 w_7 m_9; omega
      | succ n ih_8 =>
        intro v4 z6 tz6 ocz6 w_6 w_7 m_9
        refine hK_4 v4 z6 ?_
        refine ⟨fun c7 => ?_, fun c7 => ?_⟩
        · skip
          have i_10 := i_le (show (168 : Int32).toInt = 168 by decide) rfl c7
          intro K9 hK_11
          have L_12 : ∀ (n : Nat) (v8 : Int32) (z10 : St), TM z10 → Same [21] [13] z z10 → (0 ≤ v8.toInt) → (v8.toInt ≤ 400) → (400 - v8.toInt).toNat < n → K9 v8 z10 := by
            intro n
            induction n with
            | zero => intro v8 z10 tz10 ocz10 w_13 w_14 m_16; omega
            | succ n ih_15 =>
              intro v8 z10 tz10 ocz10 w_13 w_14 m_16
              refine hK_11 v8 z10 ?_
              refine ⟨fun c11 => ?_, fun c11 => ?_⟩
              · skip
                have f_17 : 0 ≤ (gI z10 3).toInt ∧ (gI z10 3).toInt ≤ 400 := tz10.1 3
                have q_18 := (ocz10.fi 3 (by decide))
                have f_19 : 0 ≤ (gI z 3).toInt ∧ (gI z 3).toInt ≤ 400 := ht.1 3
                have i_20 := i_le rfl rfl c11
                intro z12 ez12
                have tz12 : TM z12 := by rw [ez12]; exact Ty_wI tz10 trivial
                have oz12 : Same [21] [13] z z12 := ocz10.i (by decide) ez12
                refine hK_1 z12 ?_
                refine ⟨vin rfl (by omega) (by omega), ?_⟩
                have q_21 := (show (gF z12 13 b1.toNatClampNeg).toInt = (gF z10 13 b1.toNatClampNeg).toInt by rw [ez12]; rfl)
                exact hk (gF z12 13 b1.toNatClampNeg) z12 tz12 oz12 trivial
              · skip
                have f_22 : 0 ≤ (gI z10 3).toInt ∧ (gI z10 3).toInt ≤ 400 := tz10.1 3
                have q_23 := (ocz10.fi 3 (by decide))
                have f_24 : 0 ≤ (gI z 3).toInt ∧ (gI z 3).toInt ≤ 400 := ht.1 3
                have i_25 := i_nle rfl rfl c11
                refine ⟨vin rfl (by omega) (by omega), ?_⟩
                refine ⟨vin rfl (by omega) (by omega), ?_⟩
                intro K15 hK_26
                refine ⟨fun c18 => ?_, fun c18 => ?_⟩
                · skip
                  have q_27 := (ocz10.ff 3 v8.toNatClampNeg (by decide))
                  have f_28 : 0 ≤ (gI z10 2).toInt ∧ (gI z10 2).toInt ≤ 167 := tz10.1 2
                  have q_29 := (ocz10.fi 2 (by decide))
                  have f_30 : 0 ≤ (gI z 2).toInt ∧ (gI z 2).toInt ≤ 167 := ht.1 2
                  have i_31 := i_lt rfl rfl c18
                  refine ⟨vin rfl (by omega) (by omega), ?_⟩
                  have f_32 : 0 ≤ (gF z10 1 v8.toNatClampNeg).toInt ∧ (gF z10 1 v8.toNatClampNeg).toInt ≤ 167 := tz10.2 1 _
                  have q_33 := (ocz10.ff 1 v8.toNatClampNeg (by decide))
                  have f_34 : 0 ≤ (gF z 1 v8.toNatClampNeg).toInt ∧ (gF z 1 v8.toNatClampNeg).toInt ≤ 167 := ht.2 1 _
                  refine ⟨vin rfl (by omega) (by omega), ?_⟩
                  refine hK_26 ((gF z10 13 (gF z10 1 v8.toNatClampNeg).toNatClampNeg)) ((gF z10 1 v8.toNatClampNeg)) ?_
                  refine ⟨vin rfl (by omega) (by omega), ?_⟩
                  intro z_35 ez_35
                  have tz_35 : TM z_35 := by rw [ez_35]; exact Ty_wR tz10 trivial
                  have oz_35 : Same [21] [13] z z_35 := ocz10.r (by decide) ez_35
                  intro y_36 ey_36
                  have iy_36 : y_36.toInt = (v8.toInt + (1)) := by rw [ey_36]; exact (a_add rfl (show (1 : Int32).toInt = 1 by decide) (by omega) (by omega))
                  exact ih_15 y_36 z_35 tz_35 oz_35 (by omega) (by omega) (by omega)
                · skip
                  have q_37 := (ocz10.ff 3 v8.toNatClampNeg (by decide))
                  have f_38 : 0 ≤ (gI z10 2).toInt ∧ (gI z10 2).toInt ≤ 167 := tz10.1 2
                  have q_39 := (ocz10.fi 2 (by decide))
                  have f_40 : 0 ≤ (gI z 2).toInt ∧ (gI z 2).toInt ≤ 167 := ht.1 2
                  have i_41 := i_nlt rfl rfl c18
                  refine ⟨vin rfl (by omega) (by omega), ?_⟩
                  refine hK_26 ((gF z10 2 v8.toNatClampNeg)) ((gF z10 1 v8.toNatClampNeg)) ?_
                  have f_44 : 0 ≤ (gF z10 1 v8.toNatClampNeg).toInt ∧ (gF z10 1 v8.toNatClampNeg).toInt ≤ 167 := tz10.2 1 _
                  have q_45 := (ocz10.ff 1 v8.toNatClampNeg (by decide))
                  have f_46 : 0 ≤ (gF z 1 v8.toNatClampNeg).toInt ∧ (gF z 1 v8.toNatClampNeg).toInt ≤ 167 := ht.2 1 _
                  refine ⟨vin rfl (by omega) (by omega), ?_⟩
                  intro z_42 ez_42
                  have tz_42 : TM z_42 := by rw [ez_42]; exact Ty_wR tz10 trivial
                  have oz_42 : Same [21] [13] z z_42 := ocz10.r (by decide) ez_42
                  intro y_43 ey_43
                  have iy_43 : y_43.toInt = (v8.toInt + (1)) := by rw [ey_43]; exact (a_add rfl (show (1 : Int32).toInt = 1 by decide) (by omega) (by omega))
                  exact ih_15 y_43 z_42 tz_42 oz_42 (by omega) (by omega) (by omega)
          have g_47 : (0 : Int32).toInt = 0 := by decide
          exact L_12 ((400 - (0 : Int32).toInt).toNat + 1) ((0 : Int32)) z6 tz6 ocz6 (by omega) (by omega) (by omega)
        · skip
          have i_48 := i_nle (show (168 : Int32).toInt = 168 by decide) rfl c7
          refine ⟨vin rfl (by omega) (by omega), ?_⟩
          intro z19 ez19
          have tz19 : TM z19 := by rw [ez19]; exact Ty_wR tz6 trivial
          have oz19 : Same [21] [13] z z19 := ocz6.r (by decide) ez19
          intro x20 ex20
          have ix20 : x20.toInt = (v4.toInt + (1)) := by rw [ex20]; exact (a_add rfl (show (1 : Int32).toInt = 1 by decide) (by omega) (by omega))
          exact ih_8 x20 z19 tz19 oz19 (by omega) (by omega) (by omega)
    have g_49 : (0 : Int32).toInt = 0 := by decide
    exact L_5 ((168 - (0 : Int32).toInt).toNat + 1) ((0 : Int32)) z ht (Same.rf (z := z)) (by omega) (by omega) (by omega)

set_option maxHeartbeats 2000000 in
theorem s_X9_isDear (b1 : Int32) (z : St) (P : Int32 → St → Prop) (ht : TM z) (h0 : 0 ≤ b1.toInt ∧ b1.toInt ≤ 167) (hk : ∀ (r : Int32) (z2 : St), TM z2 → Same [21] [13] z z2 → ((r = 1 ∧ (True)) ∨ (r = 0 ∧ (True))) → P r z2) : wp_X9_isDear b1 z P := by
  unfold wp_X9_isDear
  intro K3 hK_1
  have L_2 : ∀ (n : Nat) (v1 : Int32) (v2 : Int32) (z4 : St), TM z4 → Same [21] [13] z z4 → (0 ≤ v2.toInt) → (v2.toInt ≤ 20) → (v1 = 0 ∨ v1 = 1) → (20 - v2.toInt).toNat < n → K3 v1 v2 z4 := by
    intro n
    induction n with
    | zero => intro v1 v2 z4 tz4 ocz4 w_3 w_4 w_5 m_7; omega
    | succ n ih_6 =>
      intro v1 v2 z4 tz4 ocz4 w_3 w_4 w_5 m_7
      refine hK_1 v1 v2 z4 ?_
      refine ⟨fun c5 => ?_, fun c5 => ?_⟩
      · skip
        have f_8 : 0 ≤ (gI z4 22).toInt ∧ (gI z4 22).toInt ≤ 20 := tz4.1 22
        have q_9 := (ocz4.fi 22 (by decide))
        have f_10 : 0 ≤ (gI z 22).toInt ∧ (gI z 22).toInt ≤ 20 := ht.1 22
        have i_11 := i_le rfl rfl c5
        have hb9 : v1 = 0 ∨ v1 = 1 := by first | assumption | omega
        refine ⟨hb9, ?_⟩
        rcases hb9 with e9 | e9
        · exact hk v1 z4 tz4 ocz4 (Or.inr ⟨e9, trivial⟩)
        · exact hk v1 z4 tz4 ocz4 (Or.inl ⟨e9, trivial⟩)
      · skip
        have f_12 : 0 ≤ (gI z4 22).toInt ∧ (gI z4 22).toInt ≤ 20 := tz4.1 22
        have q_13 := (ocz4.fi 22 (by decide))
        have f_14 : 0 ≤ (gI z 22).toInt ∧ (gI z 22).toInt ≤ 20 := ht.1 22
        have i_15 := i_nle rfl rfl c5
        intro K7 hK_16
        intro K10 hK_17
        refine ⟨fun c12 => ?_, fun c12 => ?_⟩
        · skip
          have i_18 := i_ne rfl (show (0 : Int32).toInt = 0 by decide) c12
          refine hK_17 z4 ?_
          refine hK_16 ((1 : Int32)) z4 ?_
          intro y_19 ey_19
          have iy_19 : y_19.toInt = (v2.toInt + (1)) := by rw [ey_19]; exact (a_add rfl (show (1 : Int32).toInt = 1 by decide) (by omega) (by omega))
          have g_20 : (1 : Int32).toInt = 1 := by decide
          exact ih_6 ((1 : Int32)) y_19 z4 tz4 ocz4 (by omega) (by omega) (by first | omega | assumption | decide) (by omega)
        · skip
          have i_21 := i_eq rfl (show (0 : Int32).toInt = 0 by decide) c12
          refine ⟨vin rfl (by omega) (by omega), ?_⟩
          intro K13 hK_22
          refine ⟨fun c15 => ?_, fun c15 => ?_⟩
          · skip
            have q_23 := (ocz4.ff 14 v2.toNatClampNeg (by decide))
            have i_24 := i_ne rfl (show (1 : Int32).toInt = 1 by decide) c15
            refine hK_22 z4 ?_
            refine hK_16 ((0 : Int32)) z4 ?_
            intro y_25 ey_25
            have iy_25 : y_25.toInt = (v2.toInt + (1)) := by rw [ey_25]; exact (a_add rfl (show (1 : Int32).toInt = 1 by decide) (by omega) (by omega))
            have g_26 : (0 : Int32).toInt = 0 := by decide
            exact ih_6 ((0 : Int32)) y_25 z4 tz4 ocz4 (by omega) (by omega) (by first | omega | assumption | decide) (by omega)
          · skip
            have q_27 := (ocz4.ff 14 v2.toNatClampNeg (by decide))
            have i_28 := i_eq rfl (show (1 : Int32).toInt = 1 by decide) c15
            refine s_X9_nowOf b1 z4 _ tz4 (by omega) (fun r17 z16 tz16 o_30 hp_29 => ?_)
            have oz16 : Same [21] [13] z z16 := ocz4.tr o_30 (by decide) (by decide)
            refine ⟨vin rfl (by omega) (by omega), ?_⟩
            refine ⟨fun c18 => ?_, fun c18 => ?_⟩
            · skip
              have q_31 := ((o_30.ff 15 v2.toNatClampNeg (by decide))).trans (ocz4.ff 15 v2.toNatClampNeg (by decide))
              have i_32 := i_le rfl rfl c18
              refine hK_22 z16 ?_
              refine hK_16 ((0 : Int32)) z16 ?_
              intro y_33 ey_33
              have iy_33 : y_33.toInt = (v2.toInt + (1)) := by rw [ey_33]; exact (a_add rfl (show (1 : Int32).toInt = 1 by decide) (by omega) (by omega))
              have g_34 : (0 : Int32).toInt = 0 := by decide
              exact ih_6 ((0 : Int32)) y_33 z16 tz16 oz16 (by omega) (by omega) (by first | omega | assumption | decide) (by omega)
            · skip
              have q_35 := ((o_30.ff 15 v2.toNatClampNeg (by decide))).trans (ocz4.ff 15 v2.toNatClampNeg (by decide))
              have i_36 := i_nle rfl rfl c18
              refine hK_17 z16 ?_
              refine hK_16 ((1 : Int32)) z16 ?_
              intro y_37 ey_37
              have iy_37 : y_37.toInt = (v2.toInt + (1)) := by rw [ey_37]; exact (a_add rfl (show (1 : Int32).toInt = 1 by decide) (by omega) (by omega))
              have g_38 : (1 : Int32).toInt = 1 := by decide
              exact ih_6 ((1 : Int32)) y_37 z16 tz16 oz16 (by omega) (by omega) (by first | omega | assumption | decide) (by omega)
  have g_39 : (0 : Int32).toInt = 0 := by decide
  have g_40 : (0 : Int32).toInt = 0 := by decide
  exact L_2 ((20 - (0 : Int32).toInt).toNat + 1) ((0 : Int32)) ((0 : Int32)) z ht (Same.rf (z := z)) (by omega) (by omega) (by first | omega | assumption | decide) (by omega)

set_option maxHeartbeats 2000000 in
theorem s_X9_drawnBy (b1 : Int32) (b2 : Int32) (z : St) (P : Int32 → Prop) (ht : TM z) (h0 : 0 ≤ b1.toInt ∧ b1.toInt ≤ 15) (hk : ∀ r : Int32, True → P r) : wp_X9_drawnBy b1 b2 z P := by
  unfold wp_X9_drawnBy
  refine ⟨vin rfl (by omega) (by omega), ?_⟩
  intro x1 ex1
  have ix1 : x1.toInt = (b2 - (gF z 12 b1.toNatClampNeg)).toInt := by rw [ex1]
  refine ⟨vin rfl (by omega) (by omega), ?_⟩
  refine ⟨fun c2 => ?_, fun c2 => ?_⟩
  · skip
    have i_1 := i_eq rfl (show (0 : Int32).toInt = 0 by decide) c2
    have g_2 : (0 : Int32).toInt = 0 := by decide
    exact hk ((0 : Int32)) trivial
  · skip
    have i_3 := i_ne rfl (show (0 : Int32).toInt = 0 by decide) c2
    refine ⟨vin rfl (by omega) (by omega), ?_⟩
    have g_4 : (Int32.toInt64 x1).toInt = x1.toInt := (a_wide rfl)
    have g_5 : (0 : Int64).toInt = 0 := by decide
    have f_6 : 0 ≤ (gF z 9 b1.toNatClampNeg).toInt ∧ (gF z 9 b1.toNatClampNeg).toInt ≤ 4 := ht.2 9 _
    have g_7 : ((Int32.toInt64 (gF z 9 b1.toNatClampNeg)) - (1 : Int64)).toInt = ((gF z 9 b1.toNatClampNeg).toInt - (1)) := (a_subL (a_wide rfl) (show (1 : Int64).toInt = 1 by decide) (by omega) (by omega))
    refine s_X9_in (Int32.toInt64 x1) ((0 : Int64)) ((Int32.toInt64 (gF z 9 b1.toNatClampNeg)) - ((1 : Int64))) z _ ht  (fun r4 hp_8 => ?_)
    rcases hp_8 with ⟨er4, hp_8⟩ | ⟨er4, hp_8⟩
    · subst er4
      refine ⟨fun hc => absurd hc (by decide), fun _ => ?_⟩
      refine ⟨vin (a_add (a_mul (show (4 : Int32).toInt = 4 by decide) rfl (by omega) (by omega)) rfl (by omega) (by omega)) (by omega) (by omega), ?_⟩
      exact hk (gF z 10 ((((4 : Int32)) * b1) + x1).toNatClampNeg) trivial
    · subst er4
      refine ⟨fun _ => ?_, fun hc => absurd (show ((0 : Int32)) = ((0 : Int32)) by decide) hc⟩
      have g_9 : (0 : Int32).toInt = 0 := by decide
      exact hk ((0 : Int32)) trivial

set_option maxHeartbeats 2000000 in
theorem s_X9_loadOf (b1 : Int32) (b2 : Int32) (b3 : Int32) (z : St) (P : Int32 → Prop) (ht : TM z) (h0 : 0 ≤ b1.toInt ∧ b1.toInt ≤ 3) (h1 : 0 ≤ b2.toInt ∧ b2.toInt ≤ 167) (hk : ∀ r : Int32, True → P r) : wp_X9_loadOf b1 b2 b3 z P := by
  unfold wp_X9_loadOf
  refine ⟨vin (a_add (a_mul (show (24 : Int32).toInt = 24 by decide) rfl (by omega) (by omega)) (a_rem rfl (by omega) rfl) (by omega) (by omega)) (by omega) (by omega), ?_⟩
  intro x1 ex1
  have ix1 : x1.toInt = (gF z 5 (((24 : Int32) * b1) + (b2 - b2 / (24 : Int32) * (24 : Int32))).toNatClampNeg).toInt := by rw [ex1]
  intro K4 hK_1
  have L_2 : ∀ (n : Nat) (v2 : Int32) (v3 : Int32), (0 ≤ v3.toInt) → (v3.toInt ≤ 16) → (16 - v3.toInt).toNat < n → K4 v2 v3 := by
    intro n
    induction n with
    | zero => intro v2 v3 w_3 w_4 m_6; omega
    | succ n ih_5 =>
      intro v2 v3 w_3 w_4 m_6
      refine hK_1 v2 v3 ?_
      refine ⟨fun c5 => ?_, fun c5 => ?_⟩
      · skip
        have f_7 : 0 ≤ (gI z 12).toInt ∧ (gI z 12).toInt ≤ 16 := ht.1 12
        have i_8 := i_le rfl rfl c5
        exact hk v2 trivial
      · skip
        have f_9 : 0 ≤ (gI z 12).toInt ∧ (gI z 12).toInt ≤ 16 := ht.1 12
        have i_10 := i_nle rfl rfl c5
        intro K8 hK_11
        intro K12 hK_12
        refine ⟨fun c13 => ?_, fun c13 => ?_⟩
        · skip
          have i_13 := i_eq rfl rfl c13
          refine hK_12 v2 ?_
          refine hK_11 ((0 : Int32)) v2 ?_
          intro y_14 ey_14
          have iy_14 : y_14.toInt = (v2 + (0 : Int32)).toInt := by rw [ey_14]
          intro y_15 ey_15
          have iy_15 : y_15.toInt = (v3.toInt + (1)) := by rw [ey_15]; exact (a_add rfl (show (1 : Int32).toInt = 1 by decide) (by omega) (by omega))
          exact ih_5 y_14 y_15 (by omega) (by omega) (by omega)
        · skip
          have i_16 := i_ne rfl rfl c13
          refine ⟨vin rfl (by omega) (by omega), ?_⟩
          refine ⟨fun c14 => ?_, fun c14 => ?_⟩
          · skip
            have f_17 : 0 ≤ (gF z 6 v3.toNatClampNeg).toInt ∧ (gF z 6 v3.toNatClampNeg).toInt ≤ 3 := ht.2 6 _
            have i_18 := i_ne rfl rfl c14
            refine hK_12 v2 ?_
            refine hK_11 ((0 : Int32)) v2 ?_
            intro y_19 ey_19
            have iy_19 : y_19.toInt = (v2 + (0 : Int32)).toInt := by rw [ey_19]
            intro y_20 ey_20
            have iy_20 : y_20.toInt = (v3.toInt + (1)) := by rw [ey_20]; exact (a_add rfl (show (1 : Int32).toInt = 1 by decide) (by omega) (by omega))
            exact ih_5 y_19 y_20 (by omega) (by omega) (by omega)
          · skip
            have f_21 : 0 ≤ (gF z 6 v3.toNatClampNeg).toInt ∧ (gF z 6 v3.toNatClampNeg).toInt ≤ 3 := ht.2 6 _
            have i_22 := i_eq rfl rfl c14
            refine s_X9_drawnBy v3 b2 z _ ht (by omega) (fun r16 hp_23 => ?_)
            refine hK_11 r16 v2 ?_
            intro y_24 ey_24
            have iy_24 : y_24.toInt = (v2 + r16).toInt := by rw [ey_24]
            intro y_25 ey_25
            have iy_25 : y_25.toInt = (v3.toInt + (1)) := by rw [ey_25]; exact (a_add rfl (show (1 : Int32).toInt = 1 by decide) (by omega) (by omega))
            exact ih_5 y_24 y_25 (by omega) (by omega) (by omega)
  have g_26 : (0 : Int32).toInt = 0 := by decide
  exact L_2 ((16 - (0 : Int32).toInt).toNat + 1) x1 ((0 : Int32)) (by omega) (by omega) (by omega)

set_option maxHeartbeats 2000000 in
theorem s_X9_mayBegin (b1 : Int32) (b2 : Int32) (z : St) (P : Int32 → St → Prop) (ht : TM z) (h0 : 0 ≤ b1.toInt ∧ b1.toInt ≤ 15) (hk : ∀ (r : Int32) (z2 : St), TM z2 → Same [21] [13] z z2 → ((r = 1 ∧ (True)) ∨ (r = 0 ∧ (True))) → P r z2) : wp_X9_mayBegin b1 b2 z P := by
  unfold wp_X9_mayBegin
  refine ⟨fun c1 => ?_, fun c1 => ?_⟩
  · skip
    have f_1 : 0 ≤ (gI z 2).toInt ∧ (gI z 2).toInt ≤ 167 := ht.1 2
    have i_2 := i_lt rfl rfl c1
    have g_3 : (0 : Int32).toInt = 0 := by decide
    exact hk ((0 : Int32)) z ht (Same.rf (z := z)) (Or.inr ⟨rfl, trivial⟩)
  · skip
    have f_4 : 0 ≤ (gI z 2).toInt ∧ (gI z 2).toInt ≤ 167 := ht.1 2
    have i_5 := i_nlt rfl rfl c1
    refine ⟨vin rfl (by omega) (by omega), ?_⟩
    refine ⟨vin rfl (by omega) (by omega), ?_⟩
    have g_6 : (Int32.toInt64 b2).toInt = b2.toInt := (a_wide rfl)
    have f_7 : 0 ≤ (gF z 7 b1.toNatClampNeg).toInt ∧ (gF z 7 b1.toNatClampNeg).toInt ≤ 167 := ht.2 7 _
    have g_8 : (Int32.toInt64 (gF z 7 b1.toNatClampNeg)).toInt = (gF z 7 b1.toNatClampNeg).toInt := (a_wide rfl)
    have f_9 : 0 ≤ (gF z 8 b1.toNatClampNeg).toInt ∧ (gF z 8 b1.toNatClampNeg).toInt ≤ 167 := ht.2 8 _
    have g_10 : (Int32.toInt64 (gF z 8 b1.toNatClampNeg)).toInt = (gF z 8 b1.toNatClampNeg).toInt := (a_wide rfl)
    refine s_X9_in (Int32.toInt64 b2) (Int32.toInt64 (gF z 7 b1.toNatClampNeg)) (Int32.toInt64 (gF z 8 b1.toNatClampNeg)) z _ ht  (fun r3 hp_11 => ?_)
    rcases hp_11 with ⟨er3, hp_11⟩ | ⟨er3, hp_11⟩
    · subst er3
      refine ⟨fun hc => absurd hc (by decide), fun _ => ?_⟩
      refine ⟨vin rfl (by omega) (by omega), ?_⟩
      refine ⟨fun c5 => ?_, fun c5 => ?_⟩
      · skip
        have f_12 : 0 ≤ (gF z 9 b1.toNatClampNeg).toInt ∧ (gF z 9 b1.toNatClampNeg).toInt ≤ 4 := ht.2 9 _
        have i_13 := i_le (a_add rfl rfl (by omega) (by omega)) (show (168 : Int32).toInt = 168 by decide) c5
        intro K7 hK_14
        have L_15 : ∀ (n : Nat) (v6 : Int32) (z8 : St), TM z8 → Same [21] [13] z z8 → (0 ≤ v6.toInt) → (v6.toInt ≤ 4) → (b2.toInt + (gF z 9 b1.toNatClampNeg).toInt ≤ 168) → (0 ≤ b2.toInt) → (4 - v6.toInt).toNat < n → K7 v6 z8 := by
          intro n
          induction n with
          | zero => intro v6 z8 tz8 ocz8 w_16 w_17 w_18 w_19 m_21; omega
          | succ n ih_20 =>
            intro v6 z8 tz8 ocz8 w_16 w_17 w_18 w_19 m_21
            refine hK_14 v6 z8 ?_
            refine ⟨vin rfl (by omega) (by omega), ?_⟩
            refine ⟨fun c9 => ?_, fun c9 => ?_⟩
            · skip
              have f_22 : 0 ≤ (gF z8 9 b1.toNatClampNeg).toInt ∧ (gF z8 9 b1.toNatClampNeg).toInt ≤ 4 := tz8.2 9 _
              have q_23 := (ocz8.ff 9 b1.toNatClampNeg (by decide))
              have i_24 := i_le rfl rfl c9
              intro K12 hK_25
              have L_26 : ∀ (n : Nat) (v10 : Int32) (v11 : Int32), (0 ≤ v11.toInt) → (v11.toInt ≤ 20) → (v10 = 0 ∨ v10 = 1) → (20 - v11.toInt).toNat < n → K12 v10 v11 := by
                intro n
                induction n with
                | zero => intro v10 v11 w_27 w_28 w_29 m_31; omega
                | succ n ih_30 =>
                  intro v10 v11 w_27 w_28 w_29 m_31
                  refine hK_25 v10 v11 ?_
                  refine ⟨fun c13 => ?_, fun c13 => ?_⟩
                  · skip
                    have f_32 : 0 ≤ (gI z8 22).toInt ∧ (gI z8 22).toInt ≤ 20 := tz8.1 22
                    have q_33 := (ocz8.fi 22 (by decide))
                    have f_34 : 0 ≤ (gI z 22).toInt ∧ (gI z 22).toInt ≤ 20 := ht.1 22
                    have i_35 := i_le rfl rfl c13
                    have hb9 : v10 = 0 ∨ v10 = 1 := by first | assumption | omega
                    refine ⟨hb9, ?_⟩
                    rcases hb9 with e9 | e9
                    · exact hk v10 z8 tz8 ocz8 (Or.inr ⟨e9, trivial⟩)
                    · exact hk v10 z8 tz8 ocz8 (Or.inl ⟨e9, trivial⟩)
                  · skip
                    have f_36 : 0 ≤ (gI z8 22).toInt ∧ (gI z8 22).toInt ≤ 20 := tz8.1 22
                    have q_37 := (ocz8.fi 22 (by decide))
                    have f_38 : 0 ≤ (gI z 22).toInt ∧ (gI z 22).toInt ≤ 20 := ht.1 22
                    have i_39 := i_nle rfl rfl c13
                    refine ⟨vin rfl (by omega) (by omega), ?_⟩
                    intro K15 hK_40
                    refine ⟨fun c17 => ?_, fun c17 => ?_⟩
                    · skip
                      have q_41 := (ocz8.ff 14 v11.toNatClampNeg (by decide))
                      have i_42 := i_eq rfl (show (2 : Int32).toInt = 2 by decide) c17
                      refine ⟨vin rfl (by omega) (by omega), ?_⟩
                      intro K19 hK_43
                      refine ⟨fun c30 => ?_, fun c30 => ?_⟩
                      · skip
                        have q_44 := (ocz8.ff 15 v11.toNatClampNeg (by decide))
                        have i_45 := i_ne rfl rfl c30
                        refine hK_43 v10 ?_
                        refine ⟨vin rfl (by omega) (by omega), ?_⟩
                        refine ⟨fun c_46 => ?_, fun c_46 => ?_⟩
                        · skip
                          have q_55 := (ocz8.ff 16 v11.toNatClampNeg (by decide))
                          have i_56 := i_ne rfl rfl c_46
                          refine hK_40 v10 ?_
                          intro y_57 ey_57
                          have iy_57 : y_57.toInt = (v11.toInt + (1)) := by rw [ey_57]; exact (a_add rfl (show (1 : Int32).toInt = 1 by decide) (by omega) (by omega))
                          exact ih_30 v10 y_57 (by omega) (by omega) (by first | omega | assumption | decide) (by omega)
                        · skip
                          have q_58 := (ocz8.ff 16 v11.toNatClampNeg (by decide))
                          have i_59 := i_eq rfl rfl c_46
                          refine ⟨vin rfl (by omega) (by omega), ?_⟩
                          refine s_X9_isJob (gF z8 15 v11.toNatClampNeg) z8 _ tz8  (fun r_47 hp_60 => ?_)
                          rcases hp_60 with ⟨er_47, hp_60⟩ | ⟨er_47, hp_60⟩
                          · subst er_47
                            have f_61 : 0 ≤ (gI z8 12).toInt ∧ (gI z8 12).toInt ≤ 16 := tz8.1 12
                            have q_62 := (ocz8.fi 12 (by decide))
                            have f_63 : 0 ≤ (gI z 12).toInt ∧ (gI z 12).toInt ≤ 16 := ht.1 12
                            refine ⟨fun hc => absurd hc (by decide), fun _ => ?_⟩
                            refine ⟨vin rfl (by omega) (by omega), ?_⟩
                            refine ⟨vin rfl (by omega) (by omega), ?_⟩
                            refine ⟨fun c_49 => ?_, fun c_49 => ?_⟩
                            · skip
                              have q_64 := (ocz8.ff 11 (gF z8 15 v11.toNatClampNeg).toNatClampNeg (by decide))
                              have i_65 := i_eq rfl (show (0 : Int32).toInt = 0 by decide) c_49
                              refine hK_40 v10 ?_
                              intro y_66 ey_66
                              have iy_66 : y_66.toInt = (v11.toInt + (1)) := by rw [ey_66]; exact (a_add rfl (show (1 : Int32).toInt = 1 by decide) (by omega) (by omega))
                              exact ih_30 v10 y_66 (by omega) (by omega) (by first | omega | assumption | decide) (by omega)
                            · skip
                              have q_67 := (ocz8.ff 11 (gF z8 15 v11.toNatClampNeg).toNatClampNeg (by decide))
                              have i_68 := i_ne rfl (show (0 : Int32).toInt = 0 by decide) c_49
                              intro K_50 hK_69
                              intro K_52 hK_70
                              refine ⟨fun c_53 => ?_, fun c_53 => ?_⟩
                              · skip
                                have i_71 := i_eq rfl (show (0 : Int32).toInt = 0 by decide) c_53
                                refine hK_70  ?_
                                refine hK_69 ((0 : Int32)) ?_
                                refine hK_40 ((0 : Int32)) ?_
                                intro y_72 ey_72
                                have iy_72 : y_72.toInt = (v11.toInt + (1)) := by rw [ey_72]; exact (a_add rfl (show (1 : Int32).toInt = 1 by decide) (by omega) (by omega))
                                have g_73 : (0 : Int32).toInt = 0 := by decide
                                exact ih_30 ((0 : Int32)) y_72 (by omega) (by omega) (by first | omega | assumption | decide) (by omega)
                              · skip
                                have i_74 := i_ne rfl (show (0 : Int32).toInt = 0 by decide) c_53
                                refine ⟨vin rfl (by omega) (by omega), ?_⟩
                                refine ⟨vin rfl (by omega) (by omega), ?_⟩
                                refine ⟨vin rfl (by omega) (by omega), ?_⟩
                                refine ⟨vin rfl (by omega) (by omega), ?_⟩
                                refine ⟨fun c_54 => ?_, fun c_54 => ?_⟩
                                · skip
                                  have f_75 : 0 ≤ (gF z8 9 (gF z8 15 v11.toNatClampNeg).toNatClampNeg).toInt ∧ (gF z8 9 (gF z8 15 v11.toNatClampNeg).toNatClampNeg).toInt ≤ 4 := tz8.2 9 _
                                  have q_76 := (ocz8.ff 12 (gF z8 15 v11.toNatClampNeg).toNatClampNeg (by decide))
                                  have q_77 := (ocz8.ff 9 (gF z8 15 v11.toNatClampNeg).toNatClampNeg (by decide))
                                  have f_78 : 0 ≤ (gF z 9 (gF z8 15 v11.toNatClampNeg).toNatClampNeg).toInt ∧ (gF z 9 (gF z8 15 v11.toNatClampNeg).toNatClampNeg).toInt ≤ 4 := ht.2 9 _
                                  have i_79 := i_lt rfl rfl c_54
                                  refine hK_70  ?_
                                  refine hK_69 ((0 : Int32)) ?_
                                  refine hK_40 ((0 : Int32)) ?_
                                  intro y_80 ey_80
                                  have iy_80 : y_80.toInt = (v11.toInt + (1)) := by rw [ey_80]; exact (a_add rfl (show (1 : Int32).toInt = 1 by decide) (by omega) (by omega))
                                  have g_81 : (0 : Int32).toInt = 0 := by decide
                                  exact ih_30 ((0 : Int32)) y_80 (by omega) (by omega) (by first | omega | assumption | decide) (by omega)
                                · skip
                                  have f_82 : 0 ≤ (gF z8 9 (gF z8 15 v11.toNatClampNeg).toNatClampNeg).toInt ∧ (gF z8 9 (gF z8 15 v11.toNatClampNeg).toNatClampNeg).toInt ≤ 4 := tz8.2 9 _
                                  have q_83 := (ocz8.ff 12 (gF z8 15 v11.toNatClampNeg).toNatClampNeg (by decide))
                                  have q_84 := (ocz8.ff 9 (gF z8 15 v11.toNatClampNeg).toNatClampNeg (by decide))
                                  have f_85 : 0 ≤ (gF z 9 (gF z8 15 v11.toNatClampNeg).toNatClampNeg).toInt ∧ (gF z 9 (gF z8 15 v11.toNatClampNeg).toNatClampNeg).toInt ≤ 4 := ht.2 9 _
                                  have i_86 := i_nlt rfl rfl c_54
                                  refine hK_69 ((1 : Int32)) ?_
                                  refine hK_40 ((1 : Int32)) ?_
                                  intro y_87 ey_87
                                  have iy_87 : y_87.toInt = (v11.toInt + (1)) := by rw [ey_87]; exact (a_add rfl (show (1 : Int32).toInt = 1 by decide) (by omega) (by omega))
                                  have g_88 : (1 : Int32).toInt = 1 := by decide
                                  exact ih_30 ((1 : Int32)) y_87 (by omega) (by omega) (by first | omega | assumption | decide) (by omega)
                          · subst er_47
                            have f_89 : 0 ≤ (gI z8 12).toInt ∧ (gI z8 12).toInt ≤ 16 := tz8.1 12
                            have q_90 := (ocz8.fi 12 (by decide))
                            have f_91 : 0 ≤ (gI z 12).toInt ∧ (gI z 12).toInt ≤ 16 := ht.1 12
                            refine ⟨fun _ => ?_, fun hc => absurd (show ((0 : Int32)) = ((0 : Int32)) by decide) hc⟩
                            refine hK_40 v10 ?_
                            intro y_92 ey_92
                            have iy_92 : y_92.toInt = (v11.toInt + (1)) := by rw [ey_92]; exact (a_add rfl (show (1 : Int32).toInt = 1 by decide) (by omega) (by omega))
                            exact ih_30 v10 y_92 (by omega) (by omega) (by first | omega | assumption | decide) (by omega)
                      · skip
                        have q_93 := (ocz8.ff 15 v11.toNatClampNeg (by decide))
                        have i_94 := i_eq rfl rfl c30
                        refine ⟨vin rfl (by omega) (by omega), ?_⟩
                        have q_95 := (ocz8.ff 16 v11.toNatClampNeg (by decide))
                        refine s_X9_isJob (gF z8 16 v11.toNatClampNeg) z8 _ tz8  (fun r32 hp_96 => ?_)
                        rcases hp_96 with ⟨er32, hp_96⟩ | ⟨er32, hp_96⟩
                        · subst er32
                          have f_97 : 0 ≤ (gI z8 12).toInt ∧ (gI z8 12).toInt ≤ 16 := tz8.1 12
                          have q_98 := (ocz8.fi 12 (by decide))
                          have f_99 : 0 ≤ (gI z 12).toInt ∧ (gI z 12).toInt ≤ 16 := ht.1 12
                          refine ⟨fun hc => absurd hc (by decide), fun _ => ?_⟩
                          refine ⟨vin rfl (by omega) (by omega), ?_⟩
                          refine ⟨vin rfl (by omega) (by omega), ?_⟩
                          refine ⟨fun c34 => ?_, fun c34 => ?_⟩
                          · skip
                            have q_100 := (ocz8.ff 11 (gF z8 16 v11.toNatClampNeg).toNatClampNeg (by decide))
                            have i_101 := i_eq rfl (show (0 : Int32).toInt = 0 by decide) c34
                            refine hK_43 v10 ?_
                            refine ⟨vin rfl (by omega) (by omega), ?_⟩
                            refine ⟨fun c_102 => ?_, fun c_102 => ?_⟩
                            · skip
                              have i_111 := i_ne rfl rfl c_102
                              refine hK_40 v10 ?_
                              intro y_112 ey_112
                              have iy_112 : y_112.toInt = (v11.toInt + (1)) := by rw [ey_112]; exact (a_add rfl (show (1 : Int32).toInt = 1 by decide) (by omega) (by omega))
                              exact ih_30 v10 y_112 (by omega) (by omega) (by first | omega | assumption | decide) (by omega)
                            · skip
                              have i_113 := i_eq rfl rfl c_102
                              refine ⟨vin rfl (by omega) (by omega), ?_⟩
                              refine s_X9_isJob (gF z8 15 v11.toNatClampNeg) z8 _ tz8  (fun r_103 hp_114 => ?_)
                              rcases hp_114 with ⟨er_103, hp_114⟩ | ⟨er_103, hp_114⟩
                              · subst er_103
                                refine ⟨fun hc => absurd hc (by decide), fun _ => ?_⟩
                                refine ⟨vin rfl (by omega) (by omega), ?_⟩
                                refine ⟨vin rfl (by omega) (by omega), ?_⟩
                                refine ⟨fun c_105 => ?_, fun c_105 => ?_⟩
                                · skip
                                  have q_115 := (ocz8.ff 11 (gF z8 15 v11.toNatClampNeg).toNatClampNeg (by decide))
                                  have i_116 := i_eq rfl (show (0 : Int32).toInt = 0 by decide) c_105
                                  refine hK_40 v10 ?_
                                  intro y_117 ey_117
                                  have iy_117 : y_117.toInt = (v11.toInt + (1)) := by rw [ey_117]; exact (a_add rfl (show (1 : Int32).toInt = 1 by decide) (by omega) (by omega))
                                  exact ih_30 v10 y_117 (by omega) (by omega) (by first | omega | assumption | decide) (by omega)
                                · skip
                                  have q_118 := (ocz8.ff 11 (gF z8 15 v11.toNatClampNeg).toNatClampNeg (by decide))
                                  have i_119 := i_ne rfl (show (0 : Int32).toInt = 0 by decide) c_105
                                  intro K_106 hK_120
                                  intro K_108 hK_121
                                  refine ⟨fun c_109 => ?_, fun c_109 => ?_⟩
                                  · skip
                                    have i_122 := i_eq rfl (show (0 : Int32).toInt = 0 by decide) c_109
                                    refine hK_121  ?_
                                    refine hK_120 ((0 : Int32)) ?_
                                    refine hK_40 ((0 : Int32)) ?_
                                    intro y_123 ey_123
                                    have iy_123 : y_123.toInt = (v11.toInt + (1)) := by rw [ey_123]; exact (a_add rfl (show (1 : Int32).toInt = 1 by decide) (by omega) (by omega))
                                    have g_124 : (0 : Int32).toInt = 0 := by decide
                                    exact ih_30 ((0 : Int32)) y_123 (by omega) (by omega) (by first | omega | assumption | decide) (by omega)
                                  · skip
                                    have i_125 := i_ne rfl (show (0 : Int32).toInt = 0 by decide) c_109
                                    refine ⟨vin rfl (by omega) (by omega), ?_⟩
                                    refine ⟨vin rfl (by omega) (by omega), ?_⟩
                                    refine ⟨vin rfl (by omega) (by omega), ?_⟩
                                    refine ⟨vin rfl (by omega) (by omega), ?_⟩
                                    refine ⟨fun c_110 => ?_, fun c_110 => ?_⟩
                                    · skip
                                      have f_126 : 0 ≤ (gF z8 9 (gF z8 15 v11.toNatClampNeg).toNatClampNeg).toInt ∧ (gF z8 9 (gF z8 15 v11.toNatClampNeg).toNatClampNeg).toInt ≤ 4 := tz8.2 9 _
                                      have q_127 := (ocz8.ff 12 (gF z8 15 v11.toNatClampNeg).toNatClampNeg (by decide))
                                      have q_128 := (ocz8.ff 9 (gF z8 15 v11.toNatClampNeg).toNatClampNeg (by decide))
                                      have f_129 : 0 ≤ (gF z 9 (gF z8 15 v11.toNatClampNeg).toNatClampNeg).toInt ∧ (gF z 9 (gF z8 15 v11.toNatClampNeg).toNatClampNeg).toInt ≤ 4 := ht.2 9 _
                                      have i_130 := i_lt rfl rfl c_110
                                      refine hK_121  ?_
                                      refine hK_120 ((0 : Int32)) ?_
                                      refine hK_40 ((0 : Int32)) ?_
                                      intro y_131 ey_131
                                      have iy_131 : y_131.toInt = (v11.toInt + (1)) := by rw [ey_131]; exact (a_add rfl (show (1 : Int32).toInt = 1 by decide) (by omega) (by omega))
                                      have g_132 : (0 : Int32).toInt = 0 := by decide
                                      exact ih_30 ((0 : Int32)) y_131 (by omega) (by omega) (by first | omega | assumption | decide) (by omega)
                                    · skip
                                      have f_133 : 0 ≤ (gF z8 9 (gF z8 15 v11.toNatClampNeg).toNatClampNeg).toInt ∧ (gF z8 9 (gF z8 15 v11.toNatClampNeg).toNatClampNeg).toInt ≤ 4 := tz8.2 9 _
                                      have q_134 := (ocz8.ff 12 (gF z8 15 v11.toNatClampNeg).toNatClampNeg (by decide))
                                      have q_135 := (ocz8.ff 9 (gF z8 15 v11.toNatClampNeg).toNatClampNeg (by decide))
                                      have f_136 : 0 ≤ (gF z 9 (gF z8 15 v11.toNatClampNeg).toNatClampNeg).toInt ∧ (gF z 9 (gF z8 15 v11.toNatClampNeg).toNatClampNeg).toInt ≤ 4 := ht.2 9 _
                                      have i_137 := i_nlt rfl rfl c_110
                                      refine hK_120 ((1 : Int32)) ?_
                                      refine hK_40 ((1 : Int32)) ?_
                                      intro y_138 ey_138
                                      have iy_138 : y_138.toInt = (v11.toInt + (1)) := by rw [ey_138]; exact (a_add rfl (show (1 : Int32).toInt = 1 by decide) (by omega) (by omega))
                                      have g_139 : (1 : Int32).toInt = 1 := by decide
                                      exact ih_30 ((1 : Int32)) y_138 (by omega) (by omega) (by first | omega | assumption | decide) (by omega)
                              · subst er_103
                                refine ⟨fun _ => ?_, fun hc => absurd (show ((0 : Int32)) = ((0 : Int32)) by decide) hc⟩
                                refine hK_40 v10 ?_
                                intro y_140 ey_140
                                have iy_140 : y_140.toInt = (v11.toInt + (1)) := by rw [ey_140]; exact (a_add rfl (show (1 : Int32).toInt = 1 by decide) (by omega) (by omega))
                                exact ih_30 v10 y_140 (by omega) (by omega) (by first | omega | assumption | decide) (by omega)
                          · skip
                            have q_141 := (ocz8.ff 11 (gF z8 16 v11.toNatClampNeg).toNatClampNeg (by decide))
                            have i_142 := i_ne rfl (show (0 : Int32).toInt = 0 by decide) c34
                            intro K36 hK_143
                            intro K37 hK_144
                            refine ⟨fun c38 => ?_, fun c38 => ?_⟩
                            · skip
                              have i_145 := i_eq rfl (show (0 : Int32).toInt = 0 by decide) c38
                              refine hK_144  ?_
                              refine hK_143 ((0 : Int32)) ?_
                              refine hK_43 ((0 : Int32)) ?_
                              refine ⟨vin rfl (by omega) (by omega), ?_⟩
                              refine ⟨fun c_146 => ?_, fun c_146 => ?_⟩
                              · skip
                                have i_155 := i_ne rfl rfl c_146
                                refine hK_40 ((0 : Int32)) ?_
                                intro y_156 ey_156
                                have iy_156 : y_156.toInt = (v11.toInt + (1)) := by rw [ey_156]; exact (a_add rfl (show (1 : Int32).toInt = 1 by decide) (by omega) (by omega))
                                have g_157 : (0 : Int32).toInt = 0 := by decide
                                exact ih_30 ((0 : Int32)) y_156 (by omega) (by omega) (by first | omega | assumption | decide) (by omega)
                              · skip
                                have i_158 := i_eq rfl rfl c_146
                                refine ⟨vin rfl (by omega) (by omega), ?_⟩
                                refine s_X9_isJob (gF z8 15 v11.toNatClampNeg) z8 _ tz8  (fun r_147 hp_159 => ?_)
                                rcases hp_159 with ⟨er_147, hp_159⟩ | ⟨er_147, hp_159⟩
                                · subst er_147
                                  refine ⟨fun hc => absurd hc (by decide), fun _ => ?_⟩
                                  refine ⟨vin rfl (by omega) (by omega), ?_⟩
                                  refine ⟨vin rfl (by omega) (by omega), ?_⟩
                                  refine ⟨fun c_149 => ?_, fun c_149 => ?_⟩
                                  · skip
                                    have q_160 := (ocz8.ff 11 (gF z8 15 v11.toNatClampNeg).toNatClampNeg (by decide))
                                    have i_161 := i_eq rfl (show (0 : Int32).toInt = 0 by decide) c_149
                                    refine hK_40 ((0 : Int32)) ?_
                                    intro y_162 ey_162
                                    have iy_162 : y_162.toInt = (v11.toInt + (1)) := by rw [ey_162]; exact (a_add rfl (show (1 : Int32).toInt = 1 by decide) (by omega) (by omega))
                                    have g_163 : (0 : Int32).toInt = 0 := by decide
                                    exact ih_30 ((0 : Int32)) y_162 (by omega) (by omega) (by first | omega | assumption | decide) (by omega)
                                  · skip
                                    have q_164 := (ocz8.ff 11 (gF z8 15 v11.toNatClampNeg).toNatClampNeg (by decide))
                                    have i_165 := i_ne rfl (show (0 : Int32).toInt = 0 by decide) c_149
                                    intro K_150 hK_166
                                    intro K_152 hK_167
                                    refine ⟨fun _ => ?_, fun hc => absurd (show ((0 : Int32)) = ((0 : Int32)) by decide) hc⟩
                                    refine hK_167  ?_
                                    refine hK_166 ((0 : Int32)) ?_
                                    refine hK_40 ((0 : Int32)) ?_
                                    intro y_168 ey_168
                                    have iy_168 : y_168.toInt = (v11.toInt + (1)) := by rw [ey_168]; exact (a_add rfl (show (1 : Int32).toInt = 1 by decide) (by omega) (by omega))
                                    have g_169 : (0 : Int32).toInt = 0 := by decide
                                    exact ih_30 ((0 : Int32)) y_168 (by omega) (by omega) (by first | omega | assumption | decide) (by omega)
                                · subst er_147
                                  refine ⟨fun _ => ?_, fun hc => absurd (show ((0 : Int32)) = ((0 : Int32)) by decide) hc⟩
                                  refine hK_40 ((0 : Int32)) ?_
                                  intro y_170 ey_170
                                  have iy_170 : y_170.toInt = (v11.toInt + (1)) := by rw [ey_170]; exact (a_add rfl (show (1 : Int32).toInt = 1 by decide) (by omega) (by omega))
                                  have g_171 : (0 : Int32).toInt = 0 := by decide
                                  exact ih_30 ((0 : Int32)) y_170 (by omega) (by omega) (by first | omega | assumption | decide) (by omega)
                            · skip
                              have i_172 := i_ne rfl (show (0 : Int32).toInt = 0 by decide) c38
                              refine ⟨vin rfl (by omega) (by omega), ?_⟩
                              refine ⟨vin rfl (by omega) (by omega), ?_⟩
                              refine ⟨vin rfl (by omega) (by omega), ?_⟩
                              refine ⟨fun c39 => ?_, fun c39 => ?_⟩
                              · skip
                                have q_173 := (ocz8.ff 12 (gF z8 16 v11.toNatClampNeg).toNatClampNeg (by decide))
                                have i_174 := i_lt rfl (a_add rfl rfl (by omega) (by omega)) c39
                                refine hK_144  ?_
                                refine hK_143 ((0 : Int32)) ?_
                                refine hK_43 ((0 : Int32)) ?_
                                refine ⟨vin rfl (by omega) (by omega), ?_⟩
                                refine ⟨fun c_175 => ?_, fun c_175 => ?_⟩
                                · skip
                                  have i_184 := i_ne rfl rfl c_175
                                  refine hK_40 ((0 : Int32)) ?_
                                  intro y_185 ey_185
                                  have iy_185 : y_185.toInt = (v11.toInt + (1)) := by rw [ey_185]; exact (a_add rfl (show (1 : Int32).toInt = 1 by decide) (by omega) (by omega))
                                  have g_186 : (0 : Int32).toInt = 0 := by decide
                                  exact ih_30 ((0 : Int32)) y_185 (by omega) (by omega) (by first | omega | assumption | decide) (by omega)
                                · skip
                                  have i_187 := i_eq rfl rfl c_175
                                  refine ⟨vin rfl (by omega) (by omega), ?_⟩
                                  refine s_X9_isJob (gF z8 15 v11.toNatClampNeg) z8 _ tz8  (fun r_176 hp_188 => ?_)
                                  rcases hp_188 with ⟨er_176, hp_188⟩ | ⟨er_176, hp_188⟩
                                  · subst er_176
                                    refine ⟨fun hc => absurd hc (by decide), fun _ => ?_⟩
                                    refine ⟨vin rfl (by omega) (by omega), ?_⟩
                                    refine ⟨vin rfl (by omega) (by omega), ?_⟩
                                    refine ⟨fun c_178 => ?_, fun c_178 => ?_⟩
                                    · skip
                                      have q_189 := (ocz8.ff 11 (gF z8 15 v11.toNatClampNeg).toNatClampNeg (by decide))
                                      have i_190 := i_eq rfl (show (0 : Int32).toInt = 0 by decide) c_178
                                      refine hK_40 ((0 : Int32)) ?_
                                      intro y_191 ey_191
                                      have iy_191 : y_191.toInt = (v11.toInt + (1)) := by rw [ey_191]; exact (a_add rfl (show (1 : Int32).toInt = 1 by decide) (by omega) (by omega))
                                      have g_192 : (0 : Int32).toInt = 0 := by decide
                                      exact ih_30 ((0 : Int32)) y_191 (by omega) (by omega) (by first | omega | assumption | decide) (by omega)
                                    · skip
                                      have q_193 := (ocz8.ff 11 (gF z8 15 v11.toNatClampNeg).toNatClampNeg (by decide))
                                      have i_194 := i_ne rfl (show (0 : Int32).toInt = 0 by decide) c_178
                                      intro K_179 hK_195
                                      intro K_181 hK_196
                                      refine ⟨fun _ => ?_, fun hc => absurd (show ((0 : Int32)) = ((0 : Int32)) by decide) hc⟩
                                      refine hK_196  ?_
                                      refine hK_195 ((0 : Int32)) ?_
                                      refine hK_40 ((0 : Int32)) ?_
                                      intro y_197 ey_197
                                      have iy_197 : y_197.toInt = (v11.toInt + (1)) := by rw [ey_197]; exact (a_add rfl (show (1 : Int32).toInt = 1 by decide) (by omega) (by omega))
                                      have g_198 : (0 : Int32).toInt = 0 := by decide
                                      exact ih_30 ((0 : Int32)) y_197 (by omega) (by omega) (by first | omega | assumption | decide) (by omega)
                                  · subst er_176
                                    refine ⟨fun _ => ?_, fun hc => absurd (show ((0 : Int32)) = ((0 : Int32)) by decide) hc⟩
                                    refine hK_40 ((0 : Int32)) ?_
                                    intro y_199 ey_199
                                    have iy_199 : y_199.toInt = (v11.toInt + (1)) := by rw [ey_199]; exact (a_add rfl (show (1 : Int32).toInt = 1 by decide) (by omega) (by omega))
                                    have g_200 : (0 : Int32).toInt = 0 := by decide
                                    exact ih_30 ((0 : Int32)) y_199 (by omega) (by omega) (by first | omega | assumption | decide) (by omega)
                              · skip
                                have q_201 := (ocz8.ff 12 (gF z8 16 v11.toNatClampNeg).toNatClampNeg (by decide))
                                have i_202 := i_nlt rfl (a_add rfl rfl (by omega) (by omega)) c39
                                refine hK_143 ((1 : Int32)) ?_
                                refine hK_43 ((1 : Int32)) ?_
                                refine ⟨vin rfl (by omega) (by omega), ?_⟩
                                refine ⟨fun c_203 => ?_, fun c_203 => ?_⟩
                                · skip
                                  have i_212 := i_ne rfl rfl c_203
                                  refine hK_40 ((1 : Int32)) ?_
                                  intro y_213 ey_213
                                  have iy_213 : y_213.toInt = (v11.toInt + (1)) := by rw [ey_213]; exact (a_add rfl (show (1 : Int32).toInt = 1 by decide) (by omega) (by omega))
                                  have g_214 : (1 : Int32).toInt = 1 := by decide
                                  exact ih_30 ((1 : Int32)) y_213 (by omega) (by omega) (by first | omega | assumption | decide) (by omega)
                                · skip
                                  have i_215 := i_eq rfl rfl c_203
                                  refine ⟨vin rfl (by omega) (by omega), ?_⟩
                                  refine s_X9_isJob (gF z8 15 v11.toNatClampNeg) z8 _ tz8  (fun r_204 hp_216 => ?_)
                                  rcases hp_216 with ⟨er_204, hp_216⟩ | ⟨er_204, hp_216⟩
                                  · subst er_204
                                    refine ⟨fun hc => absurd hc (by decide), fun _ => ?_⟩
                                    refine ⟨vin rfl (by omega) (by omega), ?_⟩
                                    refine ⟨vin rfl (by omega) (by omega), ?_⟩
                                    refine ⟨fun c_206 => ?_, fun c_206 => ?_⟩
                                    · skip
                                      have q_217 := (ocz8.ff 11 (gF z8 15 v11.toNatClampNeg).toNatClampNeg (by decide))
                                      have i_218 := i_eq rfl (show (0 : Int32).toInt = 0 by decide) c_206
                                      refine hK_40 ((1 : Int32)) ?_
                                      intro y_219 ey_219
                                      have iy_219 : y_219.toInt = (v11.toInt + (1)) := by rw [ey_219]; exact (a_add rfl (show (1 : Int32).toInt = 1 by decide) (by omega) (by omega))
                                      have g_220 : (1 : Int32).toInt = 1 := by decide
                                      exact ih_30 ((1 : Int32)) y_219 (by omega) (by omega) (by first | omega | assumption | decide) (by omega)
                                    · skip
                                      have q_221 := (ocz8.ff 11 (gF z8 15 v11.toNatClampNeg).toNatClampNeg (by decide))
                                      have i_222 := i_ne rfl (show (0 : Int32).toInt = 0 by decide) c_206
                                      intro K_207 hK_223
                                      intro K_209 hK_224
                                      refine ⟨fun hc => absurd hc (by decide), fun _ => ?_⟩
                                      refine ⟨vin rfl (by omega) (by omega), ?_⟩
                                      refine ⟨vin rfl (by omega) (by omega), ?_⟩
                                      refine ⟨vin rfl (by omega) (by omega), ?_⟩
                                      refine ⟨vin rfl (by omega) (by omega), ?_⟩
                                      refine ⟨fun c_211 => ?_, fun c_211 => ?_⟩
                                      · skip
                                        have f_225 : 0 ≤ (gF z8 9 (gF z8 15 v11.toNatClampNeg).toNatClampNeg).toInt ∧ (gF z8 9 (gF z8 15 v11.toNatClampNeg).toNatClampNeg).toInt ≤ 4 := tz8.2 9 _
                                        have q_226 := (ocz8.ff 12 (gF z8 15 v11.toNatClampNeg).toNatClampNeg (by decide))
                                        have q_227 := (ocz8.ff 9 (gF z8 15 v11.toNatClampNeg).toNatClampNeg (by decide))
                                        have f_228 : 0 ≤ (gF z 9 (gF z8 15 v11.toNatClampNeg).toNatClampNeg).toInt ∧ (gF z 9 (gF z8 15 v11.toNatClampNeg).toNatClampNeg).toInt ≤ 4 := ht.2 9 _
                                        have i_229 := i_lt rfl rfl c_211
                                        refine hK_224  ?_
                                        refine hK_223 ((0 : Int32)) ?_
                                        refine hK_40 ((0 : Int32)) ?_
                                        intro y_230 ey_230
                                        have iy_230 : y_230.toInt = (v11.toInt + (1)) := by rw [ey_230]; exact (a_add rfl (show (1 : Int32).toInt = 1 by decide) (by omega) (by omega))
                                        have g_231 : (0 : Int32).toInt = 0 := by decide
                                        exact ih_30 ((0 : Int32)) y_230 (by omega) (by omega) (by first | omega | assumption | decide) (by omega)
                                      · skip
                                        have f_232 : 0 ≤ (gF z8 9 (gF z8 15 v11.toNatClampNeg).toNatClampNeg).toInt ∧ (gF z8 9 (gF z8 15 v11.toNatClampNeg).toNatClampNeg).toInt ≤ 4 := tz8.2 9 _
                                        have q_233 := (ocz8.ff 12 (gF z8 15 v11.toNatClampNeg).toNatClampNeg (by decide))
                                        have q_234 := (ocz8.ff 9 (gF z8 15 v11.toNatClampNeg).toNatClampNeg (by decide))
                                        have f_235 : 0 ≤ (gF z 9 (gF z8 15 v11.toNatClampNeg).toNatClampNeg).toInt ∧ (gF z 9 (gF z8 15 v11.toNatClampNeg).toNatClampNeg).toInt ≤ 4 := ht.2 9 _
                                        have i_236 := i_nlt rfl rfl c_211
                                        refine hK_223 ((1 : Int32)) ?_
                                        refine hK_40 ((1 : Int32)) ?_
                                        intro y_237 ey_237
                                        have iy_237 : y_237.toInt = (v11.toInt + (1)) := by rw [ey_237]; exact (a_add rfl (show (1 : Int32).toInt = 1 by decide) (by omega) (by omega))
                                        have g_238 : (1 : Int32).toInt = 1 := by decide
                                        exact ih_30 ((1 : Int32)) y_237 (by omega) (by omega) (by first | omega | assumption | decide) (by omega)
                                  · subst er_204
                                    refine ⟨fun _ => ?_, fun hc => absurd (show ((0 : Int32)) = ((0 : Int32)) by decide) hc⟩
                                    refine hK_40 ((1 : Int32)) ?_
                                    intro y_239 ey_239
                                    have iy_239 : y_239.toInt = (v11.toInt + (1)) := by rw [ey_239]; exact (a_add rfl (show (1 : Int32).toInt = 1 by decide) (by omega) (by omega))
                                    have g_240 : (1 : Int32).toInt = 1 := by decide
                                    exact ih_30 ((1 : Int32)) y_239 (by omega) (by omega) (by first | omega | assumption | decide) (by omega)
                        · subst er32
                          have f_241 : 0 ≤ (gI z8 12).toInt ∧ (gI z8 12).toInt ≤ 16 := tz8.1 12
                          have q_242 := (ocz8.fi 12 (by decide))
                          have f_243 : 0 ≤ (gI z 12).toInt ∧ (gI z 12).toInt ≤ 16 := ht.1 12
                          refine ⟨fun _ => ?_, fun hc => absurd (show ((0 : Int32)) = ((0 : Int32)) by decide) hc⟩
                          refine hK_43 v10 ?_
                          refine ⟨vin rfl (by omega) (by omega), ?_⟩
                          refine ⟨fun c_244 => ?_, fun c_244 => ?_⟩
                          · skip
                            have i_253 := i_ne rfl rfl c_244
                            refine hK_40 v10 ?_
                            intro y_254 ey_254
                            have iy_254 : y_254.toInt = (v11.toInt + (1)) := by rw [ey_254]; exact (a_add rfl (show (1 : Int32).toInt = 1 by decide) (by omega) (by omega))
                            exact ih_30 v10 y_254 (by omega) (by omega) (by first | omega | assumption | decide) (by omega)
                          · skip
                            have i_255 := i_eq rfl rfl c_244
                            refine ⟨vin rfl (by omega) (by omega), ?_⟩
                            refine s_X9_isJob (gF z8 15 v11.toNatClampNeg) z8 _ tz8  (fun r_245 hp_256 => ?_)
                            rcases hp_256 with ⟨er_245, hp_256⟩ | ⟨er_245, hp_256⟩
                            · subst er_245
                              refine ⟨fun hc => absurd hc (by decide), fun _ => ?_⟩
                              refine ⟨vin rfl (by omega) (by omega), ?_⟩
                              refine ⟨vin rfl (by omega) (by omega), ?_⟩
                              refine ⟨fun c_247 => ?_, fun c_247 => ?_⟩
                              · skip
                                have q_257 := (ocz8.ff 11 (gF z8 15 v11.toNatClampNeg).toNatClampNeg (by decide))
                                have i_258 := i_eq rfl (show (0 : Int32).toInt = 0 by decide) c_247
                                refine hK_40 v10 ?_
                                intro y_259 ey_259
                                have iy_259 : y_259.toInt = (v11.toInt + (1)) := by rw [ey_259]; exact (a_add rfl (show (1 : Int32).toInt = 1 by decide) (by omega) (by omega))
                                exact ih_30 v10 y_259 (by omega) (by omega) (by first | omega | assumption | decide) (by omega)
                              · skip
                                have q_260 := (ocz8.ff 11 (gF z8 15 v11.toNatClampNeg).toNatClampNeg (by decide))
                                have i_261 := i_ne rfl (show (0 : Int32).toInt = 0 by decide) c_247
                                intro K_248 hK_262
                                intro K_250 hK_263
                                refine ⟨fun c_251 => ?_, fun c_251 => ?_⟩
                                · skip
                                  have i_264 := i_eq rfl (show (0 : Int32).toInt = 0 by decide) c_251
                                  refine hK_263  ?_
                                  refine hK_262 ((0 : Int32)) ?_
                                  refine hK_40 ((0 : Int32)) ?_
                                  intro y_265 ey_265
                                  have iy_265 : y_265.toInt = (v11.toInt + (1)) := by rw [ey_265]; exact (a_add rfl (show (1 : Int32).toInt = 1 by decide) (by omega) (by omega))
                                  have g_266 : (0 : Int32).toInt = 0 := by decide
                                  exact ih_30 ((0 : Int32)) y_265 (by omega) (by omega) (by first | omega | assumption | decide) (by omega)
                                · skip
                                  have i_267 := i_ne rfl (show (0 : Int32).toInt = 0 by decide) c_251
                                  refine ⟨vin rfl (by omega) (by omega), ?_⟩
                                  refine ⟨vin rfl (by omega) (by omega), ?_⟩
                                  refine ⟨vin rfl (by omega) (by omega), ?_⟩
                                  refine ⟨vin rfl (by omega) (by omega), ?_⟩
                                  refine ⟨fun c_252 => ?_, fun c_252 => ?_⟩
                                  · skip
                                    have f_268 : 0 ≤ (gF z8 9 (gF z8 15 v11.toNatClampNeg).toNatClampNeg).toInt ∧ (gF z8 9 (gF z8 15 v11.toNatClampNeg).toNatClampNeg).toInt ≤ 4 := tz8.2 9 _
                                    have q_269 := (ocz8.ff 12 (gF z8 15 v11.toNatClampNeg).toNatClampNeg (by decide))
                                    have q_270 := (ocz8.ff 9 (gF z8 15 v11.toNatClampNeg).toNatClampNeg (by decide))
                                    have f_271 : 0 ≤ (gF z 9 (gF z8 15 v11.toNatClampNeg).toNatClampNeg).toInt ∧ (gF z 9 (gF z8 15 v11.toNatClampNeg).toNatClampNeg).toInt ≤ 4 := ht.2 9 _
                                    have i_272 := i_lt rfl rfl c_252
                                    refine hK_263  ?_
                                    refine hK_262 ((0 : Int32)) ?_
                                    refine hK_40 ((0 : Int32)) ?_
                                    intro y_273 ey_273
                                    have iy_273 : y_273.toInt = (v11.toInt + (1)) := by rw [ey_273]; exact (a_add rfl (show (1 : Int32).toInt = 1 by decide) (by omega) (by omega))
                                    have g_274 : (0 : Int32).toInt = 0 := by decide
                                    exact ih_30 ((0 : Int32)) y_273 (by omega) (by omega) (by first | omega | assumption | decide) (by omega)
                                  · skip
                                    have f_275 : 0 ≤ (gF z8 9 (gF z8 15 v11.toNatClampNeg).toNatClampNeg).toInt ∧ (gF z8 9 (gF z8 15 v11.toNatClampNeg).toNatClampNeg).toInt ≤ 4 := tz8.2 9 _
                                    have q_276 := (ocz8.ff 12 (gF z8 15 v11.toNatClampNeg).toNatClampNeg (by decide))
                                    have q_277 := (ocz8.ff 9 (gF z8 15 v11.toNatClampNeg).toNatClampNeg (by decide))
                                    have f_278 : 0 ≤ (gF z 9 (gF z8 15 v11.toNatClampNeg).toNatClampNeg).toInt ∧ (gF z 9 (gF z8 15 v11.toNatClampNeg).toNatClampNeg).toInt ≤ 4 := ht.2 9 _
                                    have i_279 := i_nlt rfl rfl c_252
                                    refine hK_262 ((1 : Int32)) ?_
                                    refine hK_40 ((1 : Int32)) ?_
                                    intro y_280 ey_280
                                    have iy_280 : y_280.toInt = (v11.toInt + (1)) := by rw [ey_280]; exact (a_add rfl (show (1 : Int32).toInt = 1 by decide) (by omega) (by omega))
                                    have g_281 : (1 : Int32).toInt = 1 := by decide
                                    exact ih_30 ((1 : Int32)) y_280 (by omega) (by omega) (by first | omega | assumption | decide) (by omega)
                            · subst er_245
                              refine ⟨fun _ => ?_, fun hc => absurd (show ((0 : Int32)) = ((0 : Int32)) by decide) hc⟩
                              refine hK_40 v10 ?_
                              intro y_282 ey_282
                              have iy_282 : y_282.toInt = (v11.toInt + (1)) := by rw [ey_282]; exact (a_add rfl (show (1 : Int32).toInt = 1 by decide) (by omega) (by omega))
                              exact ih_30 v10 y_282 (by omega) (by omega) (by first | omega | assumption | decide) (by omega)
                    · skip
                      have q_283 := (ocz8.ff 14 v11.toNatClampNeg (by decide))
                      have i_284 := i_ne rfl (show (2 : Int32).toInt = 2 by decide) c17
                      refine hK_40 v10 ?_
                      intro y_285 ey_285
                      have iy_285 : y_285.toInt = (v11.toInt + (1)) := by rw [ey_285]; exact (a_add rfl (show (1 : Int32).toInt = 1 by decide) (by omega) (by omega))
                      exact ih_30 v10 y_285 (by omega) (by omega) (by first | omega | assumption | decide) (by omega)
              have g_286 : (1 : Int32).toInt = 1 := by decide
              have g_287 : (0 : Int32).toInt = 0 := by decide
              exact L_26 ((20 - (0 : Int32).toInt).toNat + 1) ((1 : Int32)) ((0 : Int32)) (by omega) (by omega) (by first | omega | assumption | decide) (by omega)
            · skip
              have f_288 : 0 ≤ (gF z8 9 b1.toNatClampNeg).toInt ∧ (gF z8 9 b1.toNatClampNeg).toInt ≤ 4 := tz8.2 9 _
              have q_289 := (ocz8.ff 9 b1.toNatClampNeg (by decide))
              have i_290 := i_nle rfl rfl c9
              intro x40 ex40
              have ix40 : x40.toInt = (b2.toInt + v6.toInt) := by rw [ex40]; exact (a_add rfl rfl (by omega) (by omega))
              refine ⟨vin rfl (by omega) (by omega), ?_⟩
              have f_291 : 0 ≤ (gF z8 6 b1.toNatClampNeg).toInt ∧ (gF z8 6 b1.toNatClampNeg).toInt ≤ 3 := tz8.2 6 _
              have q_292 := (ocz8.ff 6 b1.toNatClampNeg (by decide))
              have f_293 : 0 ≤ (gF z 6 b1.toNatClampNeg).toInt ∧ (gF z 6 b1.toNatClampNeg).toInt ≤ 3 := ht.2 6 _
              refine s_X9_isQuiet (gF z8 6 b1.toNatClampNeg) x40 z8 _ tz8  (fun r42 hp_294 => ?_)
              rcases hp_294 with ⟨er42, hp_294⟩ | ⟨er42, hp_294⟩
              · subst er42
                refine ⟨fun _ => ?_, fun hc => absurd hc (by decide)⟩
                have g_295 : (0 : Int32).toInt = 0 := by decide
                exact hk ((0 : Int32)) z8 tz8 ocz8 (Or.inr ⟨rfl, trivial⟩)
              · subst er42
                refine ⟨fun hc => absurd hc (by decide), fun _ => ?_⟩
                refine s_X9_isDear x40 z8 _ tz8 (by omega) (fun r45 z44 tz44 o_297 hp_296 => ?_)
                have oz44 : Same [21] [13] z z44 := ocz8.tr o_297 (by decide) (by decide)
                rcases hp_296 with ⟨er45, hp_296⟩ | ⟨er45, hp_296⟩
                · subst er45
                  refine ⟨fun _ => ?_, fun hc => absurd hc (by decide)⟩
                  have g_298 : (0 : Int32).toInt = 0 := by decide
                  exact hk ((0 : Int32)) z44 tz44 oz44 (Or.inr ⟨rfl, trivial⟩)
                · subst er45
                  refine ⟨fun hc => absurd hc (by decide), fun _ => ?_⟩
                  refine ⟨vin rfl (by omega) (by omega), ?_⟩
                  have f_299 : 0 ≤ (gF z44 6 b1.toNatClampNeg).toInt ∧ (gF z44 6 b1.toNatClampNeg).toInt ≤ 3 := tz44.2 6 _
                  have q_300 := ((o_297.ff 6 b1.toNatClampNeg (by decide))).trans (ocz8.ff 6 b1.toNatClampNeg (by decide))
                  refine s_X9_loadOf (gF z44 6 b1.toNatClampNeg) x40 b1 z44 _ tz44 (by omega) (by omega) (fun r48 hp_301 => ?_)
                  refine ⟨vin (a_add (a_mul (show (4 : Int32).toInt = 4 by decide) rfl (by omega) (by omega)) rfl (by omega) (by omega)) (by omega) (by omega), ?_⟩
                  refine ⟨vin rfl (by omega) (by omega), ?_⟩
                  refine ⟨vin rfl (by omega) (by omega), ?_⟩
                  refine ⟨fun c49 => ?_, fun c49 => ?_⟩
                  · skip
                    have q_302 := ((o_297.ff 10 (((4 : Int32) * b1) + v6).toNatClampNeg (by decide))).trans (ocz8.ff 10 (((4 : Int32) * b1) + v6).toNatClampNeg (by decide))
                    have q_303 := ((o_297.ff 4 (gF z44 6 b1.toNatClampNeg).toNatClampNeg (by decide))).trans (ocz8.ff 4 (gF z44 6 b1.toNatClampNeg).toNatClampNeg (by decide))
                    have i_304 := i_le rfl rfl c49
                    refine ⟨vin (a_add (a_mul (show (4 : Int32).toInt = 4 by decide) rfl (by omega) (by omega)) rfl (by omega) (by omega)) (by omega) (by omega), ?_⟩
                    intro x50 ex50
                    have ix50 : x50.toInt = (gF z44 10 (((4 : Int32) * b1) + v6).toNatClampNeg).toInt := by rw [ex50]
                    intro K53 hK_305
                    have L_306 : ∀ (n : Nat) (v51 : Int32) (v52 : Int32), (0 ≤ v52.toInt) → (v52.toInt ≤ 4) → (4 - v52.toInt).toNat < n → K53 v51 v52 := by
                      intro n
                      induction n with
                      | zero => intro v51 v52 w_307 w_308 m_310; omega
                      | succ n ih_309 =>
                        intro v51 v52 w_307 w_308 m_310
                        refine hK_305 v51 v52 ?_
                        refine ⟨fun c54 => ?_, fun c54 => ?_⟩
                        · skip
                          have f_311 : 0 ≤ (gI z44 8).toInt ∧ (gI z44 8).toInt ≤ 4 := tz44.1 8
                          have q_312 := ((o_297.fi 8 (by decide))).trans (ocz8.fi 8 (by decide))
                          have f_313 : 0 ≤ (gI z 8).toInt ∧ (gI z 8).toInt ≤ 4 := ht.1 8
                          have i_314 := i_le rfl rfl c54
                          refine ⟨fun c55 => ?_, fun c55 => ?_⟩
                          · skip
                            have q_315 := ((o_297.fi 11 (by decide))).trans (ocz8.fi 11 (by decide))
                            have i_316 := i_le rfl rfl c55
                            intro x56 ex56
                            have ix56 : x56.toInt = (v6.toInt + (1)) := by rw [ex56]; exact (a_add rfl (show (1 : Int32).toInt = 1 by decide) (by omega) (by omega))
                            exact ih_20 x56 z44 tz44 oz44 (by omega) (by omega) (by omega) (by omega) (by omega)
                          · skip
                            have q_317 := ((o_297.fi 11 (by decide))).trans (ocz8.fi 11 (by decide))
                            have i_318 := i_nle rfl rfl c55
                            have g_319 : (0 : Int32).toInt = 0 := by decide
                            exact hk ((0 : Int32)) z44 tz44 oz44 (Or.inr ⟨rfl, trivial⟩)
                        · skip
                          have f_320 : 0 ≤ (gI z44 8).toInt ∧ (gI z44 8).toInt ≤ 4 := tz44.1 8
                          have q_321 := ((o_297.fi 8 (by decide))).trans (ocz8.fi 8 (by decide))
                          have f_322 : 0 ≤ (gI z 8).toInt ∧ (gI z 8).toInt ≤ 4 := ht.1 8
                          have i_323 := i_nle rfl rfl c54
                          refine s_X9_loadOf v52 x40 b1 z44 _ tz44 (by omega) (by omega) (fun r58 hp_324 => ?_)
                          intro x59 ex59
                          have ix59 : x59.toInt = (v51 + r58).toInt := by rw [ex59]
                          intro x60 ex60
                          have ix60 : x60.toInt = (v52.toInt + (1)) := by rw [ex60]; exact (a_add rfl (show (1 : Int32).toInt = 1 by decide) (by omega) (by omega))
                          exact ih_309 x59 x60 (by omega) (by omega) (by omega)
                    have g_325 : (0 : Int32).toInt = 0 := by decide
                    exact L_306 ((4 - (0 : Int32).toInt).toNat + 1) x50 ((0 : Int32)) (by omega) (by omega) (by omega)
                  · skip
                    have q_326 := ((o_297.ff 10 (((4 : Int32) * b1) + v6).toNatClampNeg (by decide))).trans (ocz8.ff 10 (((4 : Int32) * b1) + v6).toNatClampNeg (by decide))
                    have q_327 := ((o_297.ff 4 (gF z44 6 b1.toNatClampNeg).toNatClampNeg (by decide))).trans (ocz8.ff 4 (gF z44 6 b1.toNatClampNeg).toNatClampNeg (by decide))
                    have i_328 := i_nle rfl rfl c49
                    have g_329 : (0 : Int32).toInt = 0 := by decide
                    exact hk ((0 : Int32)) z44 tz44 oz44 (Or.inr ⟨rfl, trivial⟩)
        have g_330 : (0 : Int32).toInt = 0 := by decide
        exact L_15 ((4 - (0 : Int32).toInt).toNat + 1) ((0 : Int32)) z ht (Same.rf (z := z)) (by omega) (by omega) (by omega) (by omega) (by omega)
      · skip
        have f_331 : 0 ≤ (gF z 9 b1.toNatClampNeg).toInt ∧ (gF z 9 b1.toNatClampNeg).toInt ≤ 4 := ht.2 9 _
        have i_332 := i_nle (a_add rfl rfl (by omega) (by omega)) (show (168 : Int32).toInt = 168 by decide) c5
        have g_333 : (0 : Int32).toInt = 0 := by decide
        exact hk ((0 : Int32)) z ht (Same.rf (z := z)) (Or.inr ⟨rfl, trivial⟩)
    · subst er3
      refine ⟨fun _ => ?_, fun hc => absurd (show ((0 : Int32)) = ((0 : Int32)) by decide) hc⟩
      have g_334 : (0 : Int32).toInt = 0 := by decide
      exact hk ((0 : Int32)) z ht (Same.rf (z := z)) (Or.inr ⟨rfl, trivial⟩)

set_option maxHeartbeats 2000000 in
theorem s_X9_may (b1 : Int32) (b2 : Int32) (z : St) (P : Int32 → St → Prop) (ht : TM z)  (hk : ∀ (r : Int32) (z2 : St), TM z2 → Same [0, 21] [13] z z2 → (True) → P r z2) : wp_X9_may b1 b2 z P := by
  unfold wp_X9_may
  intro z1 ez1
  have tz1 : TM z1 := by rw [ez1]; exact Ty_wI ht trivial
  have oz1 : Same [0, 21] [13] z z1 := (Same.rf (z := z)).i (by decide) ez1
  refine s_X9_isJob b1 z1 _ tz1  (fun r3 hp_1 => ?_)
  rcases hp_1 with ⟨er3, hp_1⟩ | ⟨er3, hp_1⟩
  · subst er3
    have f_2 : 0 ≤ (gI z1 12).toInt ∧ (gI z1 12).toInt ≤ 16 := tz1.1 12
    have q_3 := (show (gI z1 12).toInt = (gI z 12).toInt by rw [ez1]; rfl)
    have f_4 : 0 ≤ (gI z 12).toInt ∧ (gI z 12).toInt ≤ 16 := ht.1 12
    refine ⟨fun hc => absurd hc (by decide), fun _ => ?_⟩
    refine ⟨vin rfl (by omega) (by omega), ?_⟩
    refine ⟨fun c5 => ?_, fun c5 => ?_⟩
    · skip
      have q_5 := (show (gF z1 11 b1.toNatClampNeg).toInt = (gF z 11 b1.toNatClampNeg).toInt by rw [ez1]; rfl)
      have i_6 := i_eq rfl (show (2 : Int32).toInt = 2 by decide) c5
      have g_7 : (-1 : Int32).toInt = -1 := by decide
      exact hk ((-1 : Int32)) z1 tz1 oz1 trivial
    · skip
      have q_8 := (show (gF z1 11 b1.toNatClampNeg).toInt = (gF z 11 b1.toNatClampNeg).toInt by rw [ez1]; rfl)
      have i_9 := i_ne rfl (show (2 : Int32).toInt = 2 by decide) c5
      refine s_X9_isHour b2 z1 _ tz1  (fun r7 hp_10 => ?_)
      rcases hp_10 with ⟨er7, hp_10⟩ | ⟨er7, hp_10⟩
      · subst er7
        refine ⟨fun _ => ?_, fun hc => absurd hc (by decide)⟩
        refine s_X9_mayBegin b1 b2 z1 _ tz1 (by omega) (fun r10 z9 tz9 o_12 hp_11 => ?_)
        have oz9 : Same [0, 21] [13] z z9 := oz1.tr o_12 (by decide) (by decide)
        rcases hp_11 with ⟨er10, hp_11⟩ | ⟨er10, hp_11⟩
        · subst er10
          refine ⟨fun hc => absurd hc (by decide), fun _ => ?_⟩
          have g_13 : (1 : Int32).toInt = 1 := by decide
          exact hk ((1 : Int32)) z9 tz9 oz9 trivial
        · subst er10
          refine ⟨fun _ => ?_, fun hc => absurd (show ((0 : Int32)) = ((0 : Int32)) by decide) hc⟩
          have g_14 : (0 : Int32).toInt = 0 := by decide
          exact hk ((0 : Int32)) z9 tz9 oz9 trivial
      · subst er7
        refine ⟨fun hc => absurd hc (by decide), fun _ => ?_⟩
        have g_15 : (-1 : Int32).toInt = -1 := by decide
        exact hk ((-1 : Int32)) z1 tz1 oz1 trivial
  · subst er3
    have f_16 : 0 ≤ (gI z1 12).toInt ∧ (gI z1 12).toInt ≤ 16 := tz1.1 12
    have q_17 := (show (gI z1 12).toInt = (gI z 12).toInt by rw [ez1]; rfl)
    have f_18 : 0 ≤ (gI z 12).toInt ∧ (gI z 12).toInt ≤ 16 := ht.1 12
    refine ⟨fun _ => ?_, fun hc => absurd (show ((0 : Int32)) = ((0 : Int32)) by decide) hc⟩
    have g_19 : (-1 : Int32).toInt = -1 := by decide
    exact hk ((-1 : Int32)) z1 tz1 oz1 trivial

set_option maxHeartbeats 2000000 in
theorem s_X9_put (b1 : Int32) (b2 : Int32) (z : St) (P : Int32 → St → Prop) (ht : TM z)  (hk : ∀ (r : Int32) (z2 : St), TM z2 → Same [0, 1, 21] [11, 12, 13] z z2 → (True) → P r z2) : wp_X9_put b1 b2 z P := by
  unfold wp_X9_put
  intro z1 ez1
  have tz1 : TM z1 := by rw [ez1]; exact Ty_wI ht trivial
  have oz1 : Same [0, 1, 21] [11, 12, 13] z z1 := (Same.rf (z := z)).i (by decide) ez1
  refine s_X9_isJob b1 z1 _ tz1  (fun r3 hp_1 => ?_)
  rcases hp_1 with ⟨er3, hp_1⟩ | ⟨er3, hp_1⟩
  · subst er3
    have f_2 : 0 ≤ (gI z1 12).toInt ∧ (gI z1 12).toInt ≤ 16 := tz1.1 12
    have q_3 := (show (gI z1 12).toInt = (gI z 12).toInt by rw [ez1]; rfl)
    have f_4 : 0 ≤ (gI z 12).toInt ∧ (gI z 12).toInt ≤ 16 := ht.1 12
    refine ⟨fun _ => ?_, fun hc => absurd hc (by decide)⟩
    refine ⟨vin rfl (by omega) (by omega), ?_⟩
    refine ⟨fun c5 => ?_, fun c5 => ?_⟩
    · skip
      have q_5 := (show (gF z1 11 b1.toNatClampNeg).toInt = (gF z 11 b1.toNatClampNeg).toInt by rw [ez1]; rfl)
      have i_6 := i_ne rfl (show (2 : Int32).toInt = 2 by decide) c5
      refine s_X9_mayBegin b1 b2 z1 _ tz1 (by omega) (fun r7 z6 tz6 o_8 hp_7 => ?_)
      have oz6 : Same [0, 1, 21] [11, 12, 13] z z6 := oz1.tr o_8 (by decide) (by decide)
      rcases hp_7 with ⟨er7, hp_7⟩ | ⟨er7, hp_7⟩
      · subst er7
        refine ⟨fun _ => ?_, fun hc => absurd hc (by decide)⟩
        refine ⟨vin rfl (by omega) (by omega), ?_⟩
        intro z9 ez9
        have tz9 : TM z9 := by rw [ez9]; exact Ty_wR tz6 trivial
        have oz9 : Same [0, 1, 21] [11, 12, 13] z z9 := oz6.r (by decide) ez9
        refine ⟨vin rfl (by omega) (by omega), ?_⟩
        intro z10 ez10
        have tz10 : TM z10 := by rw [ez10]; exact Ty_wR tz9 trivial
        have oz10 : Same [0, 1, 21] [11, 12, 13] z z10 := oz9.r (by decide) ez10
        have g_9 : (0 : Int32).toInt = 0 := by decide
        refine s_X9_told ((0 : Int32)) z10 _ tz10  (fun r12 z11 tz11 o_11 hp_10 => ?_)
        have oz11 : Same [0, 1, 21] [11, 12, 13] z z11 := oz10.tr o_11 (by decide) (by decide)
        exact hk r12 z11 tz11 oz11 trivial
      · subst er7
        refine ⟨fun hc => absurd hc (by decide), fun _ => ?_⟩
        have g_12 : (-6 : Int32).toInt = -6 := by decide
        refine s_X9_told ((-6 : Int32)) z6 _ tz6  (fun r14 z13 tz13 o_14 hp_13 => ?_)
        have oz13 : Same [0, 1, 21] [11, 12, 13] z z13 := oz6.tr o_14 (by decide) (by decide)
        exact hk r14 z13 tz13 oz13 trivial
    · skip
      have q_15 := (show (gF z1 11 b1.toNatClampNeg).toInt = (gF z 11 b1.toNatClampNeg).toInt by rw [ez1]; rfl)
      have i_16 := i_eq rfl (show (2 : Int32).toInt = 2 by decide) c5
      have g_17 : (-3 : Int32).toInt = -3 := by decide
      refine s_X9_told ((-3 : Int32)) z1 _ tz1  (fun r16 z15 tz15 o_19 hp_18 => ?_)
      have oz15 : Same [0, 1, 21] [11, 12, 13] z z15 := oz1.tr o_19 (by decide) (by decide)
      exact hk r16 z15 tz15 oz15 trivial
  · subst er3
    have f_20 : 0 ≤ (gI z1 12).toInt ∧ (gI z1 12).toInt ≤ 16 := tz1.1 12
    have q_21 := (show (gI z1 12).toInt = (gI z 12).toInt by rw [ez1]; rfl)
    have f_22 : 0 ≤ (gI z 12).toInt ∧ (gI z 12).toInt ≤ 16 := ht.1 12
    refine ⟨fun hc => absurd hc (by decide), fun _ => ?_⟩
    have g_23 : (-2 : Int32).toInt = -2 := by decide
    refine s_X9_told ((-2 : Int32)) z1 _ tz1  (fun r18 z17 tz17 o_25 hp_24 => ?_)
    have oz17 : Same [0, 1, 21] [11, 12, 13] z z17 := oz1.tr o_25 (by decide) (by decide)
    exact hk r18 z17 tz17 oz17 trivial

set_option maxHeartbeats 2000000 in
theorem s_X9_costAt (b1 : Int32) (b2 : Int32) (b3 : Int32) (z : St) (P : Int64 → Prop) (ht : TM z) (h0 : 0 ≤ b1.toInt ∧ b1.toInt ≤ 15) (hk : ∀ r : Int64, True → P r) : wp_X9_costAt b1 b2 b3 z P := by
  unfold wp_X9_costAt
  intro K3 hK_1
  have L_2 : ∀ (n : Nat) (v1 : Int64) (v2 : Int32), (0 ≤ v2.toInt) → (v2.toInt ≤ 4) → (4 - v2.toInt).toNat < n → K3 v1 v2 := by
    intro n
    induction n with
    | zero => intro v1 v2 w_3 w_4 m_6; omega
    | succ n ih_5 =>
      intro v1 v2 w_3 w_4 m_6
      refine hK_1 v1 v2 ?_
      refine ⟨vin rfl (by omega) (by omega), ?_⟩
      refine ⟨fun c4 => ?_, fun c4 => ?_⟩
      · skip
        have f_7 : 0 ≤ (gF z 9 b1.toNatClampNeg).toInt ∧ (gF z 9 b1.toNatClampNeg).toInt ≤ 4 := ht.2 9 _
        have i_8 := i_le rfl rfl c4
        exact hk v1 trivial
      · skip
        have f_9 : 0 ≤ (gF z 9 b1.toNatClampNeg).toInt ∧ (gF z 9 b1.toNatClampNeg).toInt ≤ 4 := ht.2 9 _
        have i_10 := i_nle rfl rfl c4
        refine ⟨fun c5 => ?_, fun c5 => ?_⟩
        · skip
          have i_11 := i_le (show (168 : Int32).toInt = 168 by decide) rfl c5
          exact hk v1 trivial
        · skip
          have i_12 := i_nle (show (168 : Int32).toInt = 168 by decide) rfl c5
          refine ⟨vin (a_add (a_mul (show (4 : Int32).toInt = 4 by decide) rfl (by omega) (by omega)) rfl (by omega) (by omega)) (by omega) (by omega), ?_⟩
          refine s_X9_priceOf (b2 + v2) b3 z _ ht  (fun r7 hp_13 => ?_)
          intro x8 ex8
          intro x9 ex9
          have ix9 : x9.toInt = (v2.toInt + (1)) := by rw [ex9]; exact (a_add rfl (show (1 : Int32).toInt = 1 by decide) (by omega) (by omega))
          exact ih_5 x8 x9 (by omega) (by omega) (by omega)
  have g_14 : (0 : Int32).toInt = 0 := by decide
  exact L_2 ((4 - (0 : Int32).toInt).toNat + 1) ((0 : Int64)) ((0 : Int32)) (by omega) (by omega) (by omega)

set_option maxHeartbeats 2000000 in
theorem s_X9_each  (z : St) (P : Int32 → St → Prop) (ht : TM z)  (hk : ∀ (r : Int32) (z2 : St), TM z2 → Same [0, 21] [11, 12, 13] z z2 → (True) → P r z2) : wp_X9_each  z P := by
  unfold wp_X9_each
  intro z1 ez1
  have tz1 : TM z1 := by rw [ez1]; exact Ty_wI ht trivial
  have oz1 : Same [0, 21] [11, 12, 13] z z1 := (Same.rf (z := z)).i (by decide) ez1
  intro K3 hK_1
  have L_2 : ∀ (n : Nat) (v2 : Int32) (z4 : St), TM z4 → Same [0, 21] [11, 12, 13] z z4 → (0 ≤ v2.toInt) → (v2.toInt ≤ 16) → (16 - v2.toInt).toNat < n → K3 v2 z4 := by
    intro n
    induction n with
    | zero => intro v2 z4 tz4 ocz4 w_3 w_4 m_6; omega
    | succ n ih_5 =>
      intro v2 z4 tz4 ocz4 w_3 w_4 m_6
      refine hK_1 v2 z4 ?_
      refine ⟨fun c5 => ?_, fun c5 => ?_⟩
      · skip
        have f_7 : 0 ≤ (gI z4 12).toInt ∧ (gI z4 12).toInt ≤ 16 := tz4.1 12
        have q_8 := (ocz4.fi 12 (by decide))
        have f_9 : 0 ≤ (gI z 12).toInt ∧ (gI z 12).toInt ≤ 16 := ht.1 12
        have i_10 := i_le rfl rfl c5
        intro K8 hK_11
        have L_12 : ∀ (n : Nat) (v6 : Int32) (v7 : Int32) (z9 : St), TM z9 → Same [0, 21] [11, 12, 13] z z9 → (0 ≤ v7.toInt) → (v7.toInt ≤ 16) → (16 - v7.toInt).toNat < n → K8 v6 v7 z9 := by
          intro n
          induction n with
          | zero => intro v6 v7 z9 tz9 ocz9 w_13 w_14 m_16; omega
          | succ n ih_15 =>
            intro v6 v7 z9 tz9 ocz9 w_13 w_14 m_16
            refine hK_11 v6 v7 z9 ?_
            refine ⟨fun c10 => ?_, fun c10 => ?_⟩
            · skip
              have f_17 : 0 ≤ (gI z9 12).toInt ∧ (gI z9 12).toInt ≤ 16 := tz9.1 12
              have q_18 := (ocz9.fi 12 (by decide))
              have i_19 := i_le rfl rfl c10
              exact hk v6 z9 tz9 ocz9 trivial
            · skip
              have f_20 : 0 ≤ (gI z9 12).toInt ∧ (gI z9 12).toInt ≤ 16 := tz9.1 12
              have q_21 := (ocz9.fi 12 (by decide))
              have i_22 := i_nle rfl rfl c10
              refine ⟨vin rfl (by omega) (by omega), ?_⟩
              intro K12 hK_23
              refine ⟨fun c15 => ?_, fun c15 => ?_⟩
              · skip
                have i_24 := i_ne rfl (show (2 : Int32).toInt = 2 by decide) c15
                refine ⟨vin rfl (by omega) (by omega), ?_⟩
                intro K19 hK_25
                have L_26 : ∀ (n : Nat) (v16 : Int32) (v17 : Int64) (v18 : Int32) (z20 : St), TM z20 → Same [0, 21] [11, 12, 13] z z20 → (0 ≤ v18.toInt) → (v18.toInt ≤ 168) → (168 - v18.toInt).toNat < n → K19 v16 v17 v18 z20 := by
                  intro n
                  induction n with
                  | zero => intro v16 v17 v18 z20 tz20 ocz20 w_27 w_28 m_30; omega
                  | succ n ih_29 =>
                    intro v16 v17 v18 z20 tz20 ocz20 w_27 w_28 m_30
                    refine hK_25 v16 v17 v18 z20 ?_
                    refine ⟨vin rfl (by omega) (by omega), ?_⟩
                    refine ⟨fun c21 => ?_, fun c21 => ?_⟩
                    · skip
                      have f_31 : 0 ≤ (gF z20 8 v7.toNatClampNeg).toInt ∧ (gF z20 8 v7.toNatClampNeg).toInt ≤ 167 := tz20.2 8 _
                      have q_32 := (ocz20.ff 8 v7.toNatClampNeg (by decide))
                      have f_33 : 0 ≤ (gF z 8 v7.toNatClampNeg).toInt ∧ (gF z 8 v7.toNatClampNeg).toInt ≤ 167 := ht.2 8 _
                      have i_34 := i_lt rfl rfl c21
                      intro K22 hK_35
                      refine ⟨fun c29 => ?_, fun c29 => ?_⟩
                      · skip
                        have i_36 := i_lt rfl (show (0 : Int32).toInt = 0 by decide) c29
                        refine hK_35 z20 ?_
                        intro K_37 hK_42
                        refine ⟨fun c_41 => ?_, fun c_41 => ?_⟩
                        · skip
                          have i_43 := i_le (show (0 : Int32).toInt = 0 by decide) rfl c_41
                          refine hK_42 ((0 : Int32)) v6 ?_
                          intro y_44 ey_44
                          have iy_44 : y_44.toInt = (v6 + (0 : Int32)).toInt := by rw [ey_44]
                          refine hK_23 y_44 z20 ?_
                          intro y_45 ey_45
                          have iy_45 : y_45.toInt = (v7.toInt + (1)) := by rw [ey_45]; exact (a_add rfl (show (1 : Int32).toInt = 1 by decide) (by omega) (by omega))
                          exact ih_15 y_44 y_45 z20 tz20 ocz20 (by omega) (by omega) (by omega)
                        · skip
                          have i_46 := i_nle (show (0 : Int32).toInt = 0 by decide) rfl c_41
                          refine hK_42 ((1 : Int32)) v6 ?_
                          intro y_47 ey_47
                          have iy_47 : y_47.toInt = (v6 + (1 : Int32)).toInt := by rw [ey_47]
                          refine hK_23 y_47 z20 ?_
                          intro y_48 ey_48
                          have iy_48 : y_48.toInt = (v7.toInt + (1)) := by rw [ey_48]; exact (a_add rfl (show (1 : Int32).toInt = 1 by decide) (by omega) (by omega))
                          exact ih_15 y_47 y_48 z20 tz20 ocz20 (by omega) (by omega) (by omega)
                      · skip
                        have i_49 := i_nlt rfl (show (0 : Int32).toInt = 0 by decide) c29
                        refine ⟨vin rfl (by omega) (by omega), ?_⟩
                        intro z30 ez30
                        have tz30 : TM z30 := by rw [ez30]; exact Ty_wR tz20 trivial
                        have oz30 : Same [0, 21] [11, 12, 13] z z30 := ocz20.r (by decide) ez30
                        refine ⟨vin rfl (by omega) (by omega), ?_⟩
                        intro z31 ez31
                        have tz31 : TM z31 := by rw [ez31]; exact Ty_wR tz30 trivial
                        have oz31 : Same [0, 21] [11, 12, 13] z z31 := oz30.r (by decide) ez31
                        refine hK_35 z31 ?_
                        intro K_50 hK_55
                        refine ⟨fun c_54 => ?_, fun c_54 => ?_⟩
                        · skip
                          have i_56 := i_le (show (0 : Int32).toInt = 0 by decide) rfl c_54
                          refine hK_55 ((0 : Int32)) v6 ?_
                          intro y_57 ey_57
                          have iy_57 : y_57.toInt = (v6 + (0 : Int32)).toInt := by rw [ey_57]
                          refine hK_23 y_57 z31 ?_
                          intro y_58 ey_58
                          have iy_58 : y_58.toInt = (v7.toInt + (1)) := by rw [ey_58]; exact (a_add rfl (show (1 : Int32).toInt = 1 by decide) (by omega) (by omega))
                          exact ih_15 y_57 y_58 z31 tz31 oz31 (by omega) (by omega) (by omega)
                        · skip
                          have i_59 := i_nle (show (0 : Int32).toInt = 0 by decide) rfl c_54
                          refine hK_55 ((1 : Int32)) v6 ?_
                          intro y_60 ey_60
                          have iy_60 : y_60.toInt = (v6 + (1 : Int32)).toInt := by rw [ey_60]
                          refine hK_23 y_60 z31 ?_
                          intro y_61 ey_61
                          have iy_61 : y_61.toInt = (v7.toInt + (1)) := by rw [ey_61]; exact (a_add rfl (show (1 : Int32).toInt = 1 by decide) (by omega) (by omega))
                          exact ih_15 y_60 y_61 z31 tz31 oz31 (by omega) (by omega) (by omega)
                    · skip
                      have f_62 : 0 ≤ (gF z20 8 v7.toNatClampNeg).toInt ∧ (gF z20 8 v7.toNatClampNeg).toInt ≤ 167 := tz20.2 8 _
                      have q_63 := (ocz20.ff 8 v7.toNatClampNeg (by decide))
                      have f_64 : 0 ≤ (gF z 8 v7.toNatClampNeg).toInt ∧ (gF z 8 v7.toNatClampNeg).toInt ≤ 167 := ht.2 8 _
                      have i_65 := i_nlt rfl rfl c21
                      refine s_X9_mayBegin v7 v18 z20 _ tz20 (by omega) (fun r33 z32 tz32 o_67 hp_66 => ?_)
                      have oz32 : Same [0, 21] [11, 12, 13] z z32 := ocz20.tr o_67 (by decide) (by decide)
                      rcases hp_66 with ⟨er33, hp_66⟩ | ⟨er33, hp_66⟩
                      · subst er33
                        intro K36 hK_68
                        refine ⟨fun hc => absurd hc (by decide), fun _ => ?_⟩
                        have f_69 : 0 ≤ (gI z32 2).toInt ∧ (gI z32 2).toInt ≤ 167 := tz32.1 2
                        have q_70 := ((o_67.fi 2 (by decide))).trans (ocz20.fi 2 (by decide))
                        have f_71 : 0 ≤ (gI z 2).toInt ∧ (gI z 2).toInt ≤ 167 := ht.1 2
                        refine s_X9_costAt v7 v18 (gI z32 2) z32 _ tz32 (by omega) (fun r40 hp_72 => ?_)
                        intro K41 hK_73
                        refine ⟨fun c42 => ?_, fun c42 => ?_⟩
                        · skip
                          have i_74 := i_lt rfl (show (0 : Int32).toInt = 0 by decide) c42
                          refine hK_73  ?_
                          refine hK_68 v18 r40 ?_
                          intro y_75 ey_75
                          have iy_75 : y_75.toInt = (v18.toInt + (1)) := by rw [ey_75]; exact (a_add rfl (show (1 : Int32).toInt = 1 by decide) (by omega) (by omega))
                          exact ih_29 v18 r40 y_75 z32 tz32 oz32 (by omega) (by omega) (by omega)
                        · skip
                          have i_76 := i_nlt rfl (show (0 : Int32).toInt = 0 by decide) c42
                          refine ⟨fun c43 => ?_, fun c43 => ?_⟩
                          · skip
                            refine hK_68 v16 v17 ?_
                            intro y_77 ey_77
                            have iy_77 : y_77.toInt = (v18.toInt + (1)) := by rw [ey_77]; exact (a_add rfl (show (1 : Int32).toInt = 1 by decide) (by omega) (by omega))
                            exact ih_29 v16 v17 y_77 z32 tz32 oz32 (by omega) (by omega) (by omega)
                          · skip
                            refine hK_73  ?_
                            refine hK_68 v18 r40 ?_
                            intro y_78 ey_78
                            have iy_78 : y_78.toInt = (v18.toInt + (1)) := by rw [ey_78]; exact (a_add rfl (show (1 : Int32).toInt = 1 by decide) (by omega) (by omega))
                            exact ih_29 v18 r40 y_78 z32 tz32 oz32 (by omega) (by omega) (by omega)
                      · subst er33
                        intro K36 hK_79
                        refine ⟨fun _ => ?_, fun hc => absurd (show ((0 : Int32)) = ((0 : Int32)) by decide) hc⟩
                        refine hK_79 v16 v17 ?_
                        intro y_80 ey_80
                        have iy_80 : y_80.toInt = (v18.toInt + (1)) := by rw [ey_80]; exact (a_add rfl (show (1 : Int32).toInt = 1 by decide) (by omega) (by omega))
                        exact ih_29 v16 v17 y_80 z32 tz32 oz32 (by omega) (by omega) (by omega)
                intro x44 ex44
                have f_81 : 0 ≤ (gF z9 7 v7.toNatClampNeg).toInt ∧ (gF z9 7 v7.toNatClampNeg).toInt ≤ 167 := tz9.2 7 _
                have q_82 := (ocz9.ff 7 v7.toNatClampNeg (by decide))
                have f_83 : 0 ≤ (gF z 7 v7.toNatClampNeg).toInt ∧ (gF z 7 v7.toNatClampNeg).toInt ≤ 167 := ht.2 7 _
                have ix44 : x44.toInt = (gF z9 7 v7.toNatClampNeg).toInt := by rw [ex44]
                have g_84 : (-1 : Int32).toInt = -1 := by decide
                exact L_26 ((168 - x44.toInt).toNat + 1) ((-1 : Int32)) ((0 : Int64)) x44 z9 tz9 ocz9 (by omega) (by omega) (by omega)
              · skip
                have i_85 := i_eq rfl (show (2 : Int32).toInt = 2 by decide) c15
                refine hK_23 v6 z9 ?_
                intro y_86 ey_86
                have iy_86 : y_86.toInt = (v7.toInt + (1)) := by rw [ey_86]; exact (a_add rfl (show (1 : Int32).toInt = 1 by decide) (by omega) (by omega))
                exact ih_15 v6 y_86 z9 tz9 ocz9 (by omega) (by omega) (by omega)
        have g_87 : (0 : Int32).toInt = 0 := by decide
        have g_88 : (0 : Int32).toInt = 0 := by decide
        exact L_12 ((16 - (0 : Int32).toInt).toNat + 1) ((0 : Int32)) ((0 : Int32)) z4 tz4 ocz4 (by omega) (by omega) (by omega)
      · skip
        have f_89 : 0 ≤ (gI z4 12).toInt ∧ (gI z4 12).toInt ≤ 16 := tz4.1 12
        have q_90 := (ocz4.fi 12 (by decide))
        have f_91 : 0 ≤ (gI z 12).toInt ∧ (gI z 12).toInt ≤ 16 := ht.1 12
        have i_92 := i_nle rfl rfl c5
        refine ⟨vin rfl (by omega) (by omega), ?_⟩
        intro K47 hK_93
        refine ⟨fun c50 => ?_, fun c50 => ?_⟩
        · skip
          have i_94 := i_ne rfl (show (2 : Int32).toInt = 2 by decide) c50
          refine hK_93 ((0 : Int32)) v2 ?_
          refine ⟨vin rfl (by omega) (by omega), ?_⟩
          intro z_95 ez_95
          have tz_95 : TM z_95 := by rw [ez_95]; exact Ty_wR tz4 trivial
          have oz_95 : Same [0, 21] [11, 12, 13] z z_95 := ocz4.r (by decide) ez_95
          intro y_96 ey_96
          have iy_96 : y_96.toInt = (v2.toInt + (1)) := by rw [ey_96]; exact (a_add rfl (show (1 : Int32).toInt = 1 by decide) (by omega) (by omega))
          exact ih_5 y_96 z_95 tz_95 oz_95 (by omega) (by omega) (by omega)
        · skip
          have i_97 := i_eq rfl (show (2 : Int32).toInt = 2 by decide) c50
          refine hK_93 ((2 : Int32)) v2 ?_
          refine ⟨vin rfl (by omega) (by omega), ?_⟩
          intro z_98 ez_98
          have tz_98 : TM z_98 := by rw [ez_98]; exact Ty_wR tz4 trivial
          have oz_98 : Same [0, 21] [11, 12, 13] z z_98 := ocz4.r (by decide) ez_98
          intro y_99 ey_99
          have iy_99 : y_99.toInt = (v2.toInt + (1)) := by rw [ey_99]; exact (a_add rfl (show (1 : Int32).toInt = 1 by decide) (by omega) (by omega))
          exact ih_5 y_99 z_98 tz_98 oz_98 (by omega) (by omega) (by omega)
  have g_100 : (0 : Int32).toInt = 0 := by decide
  exact L_2 ((16 - (0 : Int32).toInt).toNat + 1) ((0 : Int32)) z1 tz1 oz1 (by omega) (by omega) (by omega)

set_option maxHeartbeats 2000000 in
theorem s_X9_four (b1 : Int32) (z : St) (P : St → Prop) (ht : TM z) (h0 : (gI z 36).toInt + 4 ≤ 300) (hk : ∀ (z2 : St), TM z2 → Same [36] [25] z z2 → ((gI z2 36).toInt = (gI z 36).toInt + 4) → P z2) : wp_X9_four b1 z P := by
  unfold wp_X9_four
  intro K2 hK_1
  have L_2 : ∀ (n : Nat) (v1 : Int32) (z3 : St), TM z3 → Same [36] [25] z z3 → (8 * ((gI z3 36).toInt - (gI z 36).toInt) = 24 - v1.toInt) → (-8 ≤ v1.toInt) → (v1.toInt ≤ 24) → (v1.toInt + 8).toNat < n → K2 v1 z3 := by
    intro n
    induction n with
    | zero => intro v1 z3 tz3 ocz3 w_3 w_4 w_5 m_7; omega
    | succ n ih_6 =>
      intro v1 z3 tz3 ocz3 w_3 w_4 w_5 m_7
      have f_8 : 0 ≤ (gI z3 36).toInt ∧ (gI z3 36).toInt ≤ 300 := tz3.1 36
      have f_9 : 0 ≤ (gI z 36).toInt ∧ (gI z 36).toInt ≤ 300 := ht.1 36
      refine hK_1 v1 z3 ?_
      refine ⟨fun c4 => ?_, fun c4 => ?_⟩
      · skip
        have i_10 := i_lt rfl (show (0 : Int32).toInt = 0 by decide) c4
        exact hk z3 tz3 ocz3 (by omega)
      · skip
        have i_11 := i_nlt rfl (show (0 : Int32).toInt = 0 by decide) c4
        refine ⟨vin rfl (by omega) (by omega), ?_⟩
        intro z5 ez5
        have tz5 : TM z5 := by rw [ez5]; exact Ty_wR tz3 trivial
        have oz5 : Same [36] [25] z z5 := ocz3.r (by decide) ez5
        intro z6 ez6
        have f_12 : 0 ≤ (gI z5 36).toInt ∧ (gI z5 36).toInt ≤ 300 := tz5.1 36
        have q_13 := (show (gI z5 36).toInt = (gI z3 36).toInt by rw [ez5]; rfl)
        have tz6 : TM z6 := by rw [ez6]; exact Ty_wI tz5 (show 0 ≤ ((gI z5 36) + (1 : Int32)).toInt ∧ ((gI z5 36) + (1 : Int32)).toInt ≤ 300 from by rw [(a_add rfl (show (1 : Int32).toInt = 1 by decide) (by omega) (by omega))]; omega)
        have oz6 : Same [36] [25] z z6 := oz5.i (by decide) ez6
        intro x7 ex7
        have ix7 : x7.toInt = (v1.toInt + (-8)) := by rw [ex7]; exact (a_add rfl (show (-8 : Int32).toInt = -8 by decide) (by omega) (by omega))
        have f_14 : 0 ≤ (gI z6 36).toInt ∧ (gI z6 36).toInt ≤ 300 := tz6.1 36
        have q_15 := (show (gI z6 36).toInt = ((gI z5 36) + (1 : Int32)).toInt by rw [ez6]; rfl)
        have q_16 : ((gI z5 36) + (1 : Int32)).toInt = ((gI z5 36).toInt + (1)) := (a_add rfl (show (1 : Int32).toInt = 1 by decide) (by omega) (by omega))
        exact ih_6 x7 z6 tz6 oz6 (by omega) (by omega) (by omega) (by omega)
  have g_17 : (24 : Int32).toInt = 24 := by decide
  have f_18 : 0 ≤ (gI z 36).toInt ∧ (gI z 36).toInt ≤ 300 := ht.1 36
  exact L_2 (((24 : Int32).toInt + 8).toNat + 1) ((24 : Int32)) z ht (Same.rf (z := z)) (by omega) (by omega) (by omega) (by omega)

set_option maxHeartbeats 2000000 in
theorem s_X9_feed (b1 : Int32) (b2 : Int32) (b3 : Int32) (b4 : Int32) (b5 : Int32) (z : St) (P : Int32 → St → Prop) (ht : TM z)  (hk : ∀ (r : Int32) (z2 : St), TM z2 → Same [0, 36] [25] z z2 → ((280 < (gI z 36).toInt ∧ r.toInt = -1 ∧ (gI z2 36).toInt = (gI z 36).toInt) ∨ ((gI z 36).toInt ≤ 280 ∧ r.toInt = (gI z 36).toInt + 20 ∧ (gI z2 36).toInt = (gI z 36).toInt + 20)) → P r z2) : wp_X9_feed b1 b2 b3 b4 b5 z P := by
  unfold wp_X9_feed
  intro z1 ez1
  have tz1 : TM z1 := by rw [ez1]; exact Ty_wI ht trivial
  have oz1 : Same [0, 36] [25] z z1 := (Same.rf (z := z)).i (by decide) ez1
  refine ⟨fun c2 => ?_, fun c2 => ?_⟩
  · skip
    have f_1 : 0 ≤ (gI z1 36).toInt ∧ (gI z1 36).toInt ≤ 300 := tz1.1 36
    have q_2 := (show (gI z1 36).toInt = (gI z 36).toInt by rw [ez1]; rfl)
    have f_3 : 0 ≤ (gI z 36).toInt ∧ (gI z 36).toInt ≤ 300 := ht.1 36
    have i_4 := i_le (a_add rfl (show (20 : Int32).toInt = 20 by decide) (by omega) (by omega)) (show (300 : Int32).toInt = 300 by decide) c2
    refine s_X9_four b1 z1 _ tz1 (by omega) (fun z3 tz3 o_6 hp_5 => ?_)
    have oz3 : Same [0, 36] [25] z z3 := oz1.tr o_6 (by decide) (by decide)
    have f_7 : 0 ≤ (gI z3 36).toInt ∧ (gI z3 36).toInt ≤ 300 := tz3.1 36
    refine s_X9_four b2 z3 _ tz3 (by omega) (fun z5 tz5 o_9 hp_8 => ?_)
    have oz5 : Same [0, 36] [25] z z5 := oz3.tr o_9 (by decide) (by decide)
    have f_10 : 0 ≤ (gI z5 36).toInt ∧ (gI z5 36).toInt ≤ 300 := tz5.1 36
    refine s_X9_four b3 z5 _ tz5 (by omega) (fun z7 tz7 o_12 hp_11 => ?_)
    have oz7 : Same [0, 36] [25] z z7 := oz5.tr o_12 (by decide) (by decide)
    have f_13 : 0 ≤ (gI z7 36).toInt ∧ (gI z7 36).toInt ≤ 300 := tz7.1 36
    refine s_X9_four b4 z7 _ tz7 (by omega) (fun z9 tz9 o_15 hp_14 => ?_)
    have oz9 : Same [0, 36] [25] z z9 := oz7.tr o_15 (by decide) (by decide)
    have f_16 : 0 ≤ (gI z9 36).toInt ∧ (gI z9 36).toInt ≤ 300 := tz9.1 36
    refine s_X9_four b5 z9 _ tz9 (by omega) (fun z11 tz11 o_18 hp_17 => ?_)
    have oz11 : Same [0, 36] [25] z z11 := oz9.tr o_18 (by decide) (by decide)
    have f_19 : 0 ≤ (gI z11 36).toInt ∧ (gI z11 36).toInt ≤ 300 := tz11.1 36
    exact hk (gI z11 36) z11 tz11 oz11 (by omega)
  · skip
    have f_20 : 0 ≤ (gI z1 36).toInt ∧ (gI z1 36).toInt ≤ 300 := tz1.1 36
    have q_21 := (show (gI z1 36).toInt = (gI z 36).toInt by rw [ez1]; rfl)
    have f_22 : 0 ≤ (gI z 36).toInt ∧ (gI z 36).toInt ≤ 300 := ht.1 36
    have i_23 := i_nle (a_add rfl (show (20 : Int32).toInt = 20 by decide) (by omega) (by omega)) (show (300 : Int32).toInt = 300 by decide) c2
    have g_24 : (-1 : Int32).toInt = -1 := by decide
    exact hk ((-1 : Int32)) z1 tz1 oz1 (by omega)

set_option maxHeartbeats 2000000 in
theorem s_X9_end (b1 : Int32) (z : St) (P : Int32 → St → Prop) (ht : TM z)  (hk : ∀ (r : Int32) (z2 : St), TM z2 → Same [0, 36] [] z z2 → (((b1.toInt < 0 ∨ (gI z 36).toInt < b1.toInt) ∧ r.toInt = -1 ∧ (gI z2 36).toInt = (gI z 36).toInt) ∨ (0 ≤ b1.toInt ∧ b1.toInt ≤ (gI z 36).toInt ∧ r.toInt = b1.toInt ∧ (gI z2 36).toInt = b1.toInt)) → P r z2) : wp_X9_end b1 z P := by
  unfold wp_X9_end
  intro z1 ez1
  have tz1 : TM z1 := by rw [ez1]; exact Ty_wI ht trivial
  have oz1 : Same [0, 36] [] z z1 := (Same.rf (z := z)).i (by decide) ez1
  refine ⟨fun c2 => ?_, fun c2 => ?_⟩
  · skip
    have i_1 := i_lt rfl (show (0 : Int32).toInt = 0 by decide) c2
    have g_2 : (-1 : Int32).toInt = -1 := by decide
    have f_3 : 0 ≤ (gI z 36).toInt ∧ (gI z 36).toInt ≤ 300 := ht.1 36
    have f_4 : 0 ≤ (gI z1 36).toInt ∧ (gI z1 36).toInt ≤ 300 := tz1.1 36
    have q_5 := (show (gI z1 36).toInt = (gI z 36).toInt by rw [ez1]; rfl)
    exact hk ((-1 : Int32)) z1 tz1 oz1 (by omega)
  · skip
    have i_6 := i_nlt rfl (show (0 : Int32).toInt = 0 by decide) c2
    refine ⟨fun c3 => ?_, fun c3 => ?_⟩
    · skip
      have f_7 : 0 ≤ (gI z1 36).toInt ∧ (gI z1 36).toInt ≤ 300 := tz1.1 36
      have q_8 := (show (gI z1 36).toInt = (gI z 36).toInt by rw [ez1]; rfl)
      have f_9 : 0 ≤ (gI z 36).toInt ∧ (gI z 36).toInt ≤ 300 := ht.1 36
      have i_10 := i_le rfl rfl c3
      intro z4 ez4
      have tz4 : TM z4 := by rw [ez4]; exact Ty_wI tz1 (show 0 ≤ b1.toInt ∧ b1.toInt ≤ 300 from by omega)
      have oz4 : Same [0, 36] [] z z4 := oz1.i (by decide) ez4
      have f_11 : 0 ≤ (gI z4 36).toInt ∧ (gI z4 36).toInt ≤ 300 := tz4.1 36
      have q_12 := (show (gI z4 36).toInt = b1.toInt by rw [ez4]; rfl)
      exact hk b1 z4 tz4 oz4 (by omega)
    · skip
      have f_13 : 0 ≤ (gI z1 36).toInt ∧ (gI z1 36).toInt ≤ 300 := tz1.1 36
      have q_14 := (show (gI z1 36).toInt = (gI z 36).toInt by rw [ez1]; rfl)
      have f_15 : 0 ≤ (gI z 36).toInt ∧ (gI z 36).toInt ≤ 300 := ht.1 36
      have i_16 := i_nle rfl rfl c3
      have g_17 : (-1 : Int32).toInt = -1 := by decide
      exact hk ((-1 : Int32)) z1 tz1 oz1 (by omega)

set_option maxHeartbeats 2000000 in
theorem s_X9_isDigit (b1 : Int32) (z : St) (P : Int32 → Prop) (ht : TM z)  (hk : ∀ r : Int32, (r = 1 ∧ (True)) ∨ (r = 0 ∧ (True)) → P r) : wp_X9_isDigit b1 z P := by
  unfold wp_X9_isDigit
  refine ⟨fun c1 => ?_, fun c1 => ?_⟩
  · skip
    have i_1 := i_lt rfl (show (48 : Int32).toInt = 48 by decide) c1
    have g_2 : (0 : Int32).toInt = 0 := by decide
    exact hk ((0 : Int32)) (Or.inr ⟨rfl, trivial⟩)
  · skip
    have i_3 := i_nlt rfl (show (48 : Int32).toInt = 48 by decide) c1
    refine ⟨fun c2 => ?_, fun c2 => ?_⟩
    · skip
      have i_4 := i_lt (show (57 : Int32).toInt = 57 by decide) rfl c2
      have g_5 : (0 : Int32).toInt = 0 := by decide
      exact hk ((0 : Int32)) (Or.inr ⟨rfl, trivial⟩)
    · skip
      have i_6 := i_nlt (show (57 : Int32).toInt = 57 by decide) rfl c2
      have g_7 : (1 : Int32).toInt = 1 := by decide
      exact hk ((1 : Int32)) (Or.inl ⟨rfl, trivial⟩)

set_option maxHeartbeats 2000000 in
theorem s_X9_isSmall (b1 : Int32) (z : St) (P : Int32 → Prop) (ht : TM z)  (hk : ∀ r : Int32, (r = 1 ∧ (True)) ∨ (r = 0 ∧ (True)) → P r) : wp_X9_isSmall b1 z P := by
  unfold wp_X9_isSmall
  refine ⟨fun c1 => ?_, fun c1 => ?_⟩
  · skip
    have i_1 := i_lt rfl (show (97 : Int32).toInt = 97 by decide) c1
    have g_2 : (0 : Int32).toInt = 0 := by decide
    exact hk ((0 : Int32)) (Or.inr ⟨rfl, trivial⟩)
  · skip
    have i_3 := i_nlt rfl (show (97 : Int32).toInt = 97 by decide) c1
    refine ⟨fun c2 => ?_, fun c2 => ?_⟩
    · skip
      have i_4 := i_lt (show (122 : Int32).toInt = 122 by decide) rfl c2
      have g_5 : (0 : Int32).toInt = 0 := by decide
      exact hk ((0 : Int32)) (Or.inr ⟨rfl, trivial⟩)
    · skip
      have i_6 := i_nlt (show (122 : Int32).toInt = 122 by decide) rfl c2
      have g_7 : (1 : Int32).toInt = 1 := by decide
      exact hk ((1 : Int32)) (Or.inl ⟨rfl, trivial⟩)

set_option maxHeartbeats 2000000 in
theorem s_X9_next  (z : St) (P : St → Prop) (ht : TM z) (h0 : (gI z 38).toInt ≤ (gI z 36).toInt) (hk : ∀ (z2 : St), TM z2 → Same [37, 38, 39] [] z z2 → ((gI z2 38).toInt ≤ (gI z 36).toInt) → P z2) : wp_X9_next  z P := by
  unfold wp_X9_next
  intro K1 hK_1
  have L_2 : ∀ (n : Nat)  (z2 : St), TM z2 → Same [37, 38, 39] [] z z2 → ((gI z2 37).toInt ≤ (gI z 36).toInt) → ((gI z 36).toInt - (gI z2 37).toInt).toNat < n → K1 z2 := by
    intro n
    induction n with
    | zero => intro z2 tz2 ocz2 w_3 m_5; omega
    | succ n ih_4 =>
      intro z2 tz2 ocz2 w_3 m_5
      have f_6 : 0 ≤ (gI z2 37).toInt ∧ (gI z2 37).toInt ≤ 300 := tz2.1 37
      have f_7 : 0 ≤ (gI z 36).toInt ∧ (gI z 36).toInt ≤ 300 := ht.1 36
      refine hK_1 z2 ?_
      intro K3 hK_8
      refine ⟨fun c43 => ?_, fun c43 => ?_⟩
      · skip
        have f_9 : 0 ≤ (gI z2 36).toInt ∧ (gI z2 36).toInt ≤ 300 := tz2.1 36
        have q_10 := (ocz2.fi 36 (by decide))
        have i_11 := i_le rfl rfl c43
        refine hK_8  ?_
        intro z_12 ez_12
        have tz_12 : TM z_12 := by rw [ez_12]; exact Ty_wI tz2 (show 0 ≤ (gI z2 37).toInt ∧ (gI z2 37).toInt ≤ 300 from by omega)
        have oz_12 : Same [37, 38, 39] [] z z_12 := ocz2.i (by decide) ez_12
        intro z_13 ez_13
        have tz_13 : TM z_13 := by rw [ez_13]; exact Ty_wJ tz_12
        have oz_13 : Same [37, 38, 39] [] z z_13 := oz_12.j ez_13
        intro K_14 hK_47
        refine ⟨fun c_42 => ?_, fun c_42 => ?_⟩
        · skip
          have f_48 : 0 ≤ (gI z_13 37).toInt ∧ (gI z_13 37).toInt ≤ 300 := tz_13.1 37
          have q_49 := ((show (gI z_13 37).toInt = (gI z_12 37).toInt by rw [ez_13]; rfl)).trans (show (gI z_12 37).toInt = (gI z2 37).toInt by rw [ez_12]; rfl)
          have f_50 : 0 ≤ (gI z_13 36).toInt ∧ (gI z_13 36).toInt ≤ 300 := tz_13.1 36
          have q_51 := (((show (gI z_13 36).toInt = (gI z_12 36).toInt by rw [ez_13]; rfl)).trans (show (gI z_12 36).toInt = (gI z2 36).toInt by rw [ez_12]; rfl)).trans (ocz2.fi 36 (by decide))
          have i_52 := i_ne rfl rfl c_42
          refine ⟨vin rfl (by omega) (by omega), ?_⟩
          have q_53 := (((show (gF z_13 25 (gI z_13 37).toNatClampNeg).toInt = (gF z_12 25 (gI z_13 37).toNatClampNeg).toInt by rw [ez_13]; rfl)).trans (show (gF z_12 25 (gI z_13 37).toNatClampNeg).toInt = (gF z2 25 (gI z_13 37).toNatClampNeg).toInt by rw [ez_12]; rfl)).trans (ocz2.ff 25 (gI z_13 37).toNatClampNeg (by decide))
          refine s_X9_isSmall (gF z_13 25 (gI z_13 37).toNatClampNeg) z_13 _ tz_13  (fun r_43 hp_54 => ?_)
          rcases hp_54 with ⟨er_43, hp_54⟩ | ⟨er_43, hp_54⟩
          · subst er_43
            refine ⟨fun hc => absurd hc (by decide), fun _ => ?_⟩
            refine hK_47 ((1 : Int32)) ?_
            intro z_55 ez_55
            have tz_55 : TM z_55 := by rw [ez_55]; exact Ty_wI tz_13 trivial
            have oz_55 : Same [37, 38, 39] [] z z_55 := oz_13.i (by decide) ez_55
            intro K_56 hK_81
            have L_82 : ∀ (n : Nat)  (z_57 : St), TM z_57 → Same [37, 38, 39] [] z z_57 → ((gI z_57 38).toInt ≤ (gI z 36).toInt) → ((gI z 36).toInt - (gI z_57 38).toInt).toNat < n → K_56 z_57 := by
              intro n
              induction n with
              | zero => intro z_57 tz_57 ocz_57 w_83 m_85; omega
              | succ n ih_84 =>
                intro z_57 tz_57 ocz_57 w_83 m_85
                have f_86 : 0 ≤ (gI z_57 38).toInt ∧ (gI z_57 38).toInt ≤ 300 := tz_57.1 38
                refine hK_81 z_57 ?_
                intro K_58 hK_87
                have L_88 : ∀ (n : Nat)  (z_59 : St), TM z_59 → Same [37, 38, 39] [] z z_59 → ((gI z_59 38).toInt ≤ (gI z 36).toInt) → ((gI z 36).toInt - (gI z_59 38).toInt).toNat < n → K_58 z_59 := by
                  intro n
                  induction n with
                  | zero => intro z_59 tz_59 ocz_59 w_89 m_91; omega
                  | succ n ih_90 =>
                    intro z_59 tz_59 ocz_59 w_89 m_91
                    have f_92 : 0 ≤ (gI z_59 38).toInt ∧ (gI z_59 38).toInt ≤ 300 := tz_59.1 38
                    refine hK_87 z_59 ?_
                    refine ⟨fun c_60 => ?_, fun c_60 => ?_⟩
                    · skip
                      have i_93 := i_ne rfl (show (2 : Int32).toInt = 2 by decide) c_60
                      exact hk z_59 tz_59 ocz_59 (by omega)
                    · skip
                      have i_94 := i_eq rfl (show (2 : Int32).toInt = 2 by decide) c_60
                      refine ⟨fun c_61 => ?_, fun c_61 => ?_⟩
                      · skip
                        have f_95 : 0 ≤ (gI z_59 36).toInt ∧ (gI z_59 36).toInt ≤ 300 := tz_59.1 36
                        have q_96 := (ocz_59.fi 36 (by decide))
                        have i_97 := i_le rfl rfl c_61
                        exact hk z_59 tz_59 ocz_59 (by omega)
                      · skip
                        have f_98 : 0 ≤ (gI z_59 36).toInt ∧ (gI z_59 36).toInt ≤ 300 := tz_59.1 36
                        have q_99 := (ocz_59.fi 36 (by decide))
                        have i_100 := i_nle rfl rfl c_61
                        refine ⟨vin rfl (by omega) (by omega), ?_⟩
                        have q_101 := (ocz_59.ff 25 (gI z_59 38).toNatClampNeg (by decide))
                        refine s_X9_isDigit (gF z_59 25 (gI z_59 38).toNatClampNeg) z_59 _ tz_59  (fun r_62 hp_102 => ?_)
                        rcases hp_102 with ⟨er_62, hp_102⟩ | ⟨er_62, hp_102⟩
                        · subst er_62
                          refine ⟨fun hc => absurd hc (by decide), fun _ => ?_⟩
                          intro K_64 hK_103
                          refine ⟨fun c_68 => ?_, fun c_68 => ?_⟩
                          · skip
                            refine ⟨vin rfl (by omega) (by omega), ?_⟩
                            refine hK_103 (((((gJ z_59 40) * (10 : Int64)) + (Int32.toInt64 (gF z_59 25 (gI z_59 38).toNatClampNeg))) - (48 : Int64))) ?_
                            intro z_104 ez_104
                            have tz_104 : TM z_104 := by rw [ez_104]; exact Ty_wJ tz_59
                            have oz_104 : Same [37, 38, 39] [] z z_104 := ocz_59.j ez_104
                            intro z_105 ez_105
                            have f_106 : 0 ≤ (gI z_104 38).toInt ∧ (gI z_104 38).toInt ≤ 300 := tz_104.1 38
                            have q_107 := (show (gI z_104 38).toInt = (gI z_59 38).toInt by rw [ez_104]; rfl)
                            have tz_105 : TM z_105 := by rw [ez_105]; exact Ty_wI tz_104 (show 0 ≤ ((gI z_104 38) + (1 : Int32)).toInt ∧ ((gI z_104 38) + (1 : Int32)).toInt ≤ 300 from by rw [(a_add rfl (show (1 : Int32).toInt = 1 by decide) (by omega) (by omega))]; omega)
                            have oz_105 : Same [37, 38, 39] [] z z_105 := oz_104.i (by decide) ez_105
                            have f_108 : 0 ≤ (gI z_105 38).toInt ∧ (gI z_105 38).toInt ≤ 300 := tz_105.1 38
                            have q_109 := (show (gI z_105 38).toInt = ((gI z_104 38) + (1 : Int32)).toInt by rw [ez_105]; rfl)
                            have q_110 : ((gI z_104 38) + (1 : Int32)).toInt = ((gI z_104 38).toInt + (1)) := (a_add rfl (show (1 : Int32).toInt = 1 by decide) (by omega) (by omega))
                            exact ih_90  z_105 tz_105 oz_105 (by omega) (by omega)
                          · skip
                            refine hK_103 ((gJ z_59 40)) ?_
                            intro z_111 ez_111
                            have tz_111 : TM z_111 := by rw [ez_111]; exact Ty_wJ tz_59
                            have oz_111 : Same [37, 38, 39] [] z z_111 := ocz_59.j ez_111
                            intro z_112 ez_112
                            have f_113 : 0 ≤ (gI z_111 38).toInt ∧ (gI z_111 38).toInt ≤ 300 := tz_111.1 38
                            have q_114 := (show (gI z_111 38).toInt = (gI z_59 38).toInt by rw [ez_111]; rfl)
                            have tz_112 : TM z_112 := by rw [ez_112]; exact Ty_wI tz_111 (show 0 ≤ ((gI z_111 38) + (1 : Int32)).toInt ∧ ((gI z_111 38) + (1 : Int32)).toInt ≤ 300 from by rw [(a_add rfl (show (1 : Int32).toInt = 1 by decide) (by omega) (by omega))]; omega)
                            have oz_112 : Same [37, 38, 39] [] z z_112 := oz_111.i (by decide) ez_112
                            have f_115 : 0 ≤ (gI z_112 38).toInt ∧ (gI z_112 38).toInt ≤ 300 := tz_112.1 38
                            have q_116 := (show (gI z_112 38).toInt = ((gI z_111 38) + (1 : Int32)).toInt by rw [ez_112]; rfl)
                            have q_117 : ((gI z_111 38) + (1 : Int32)).toInt = ((gI z_111 38).toInt + (1)) := (a_add rfl (show (1 : Int32).toInt = 1 by decide) (by omega) (by omega))
                            exact ih_90  z_112 tz_112 oz_112 (by omega) (by omega)
                        · subst er_62
                          refine ⟨fun _ => ?_, fun hc => absurd (show ((0 : Int32)) = ((0 : Int32)) by decide) hc⟩
                          exact hk z_59 tz_59 ocz_59 (by omega)
                refine ⟨fun c_69 => ?_, fun c_69 => ?_⟩
                · skip
                  have i_118 := i_ne rfl (show (1 : Int32).toInt = 1 by decide) c_69
                  exact L_88 (((gI z 36).toInt - (gI z_57 38).toInt).toNat + 1)  z_57 tz_57 ocz_57 (by omega) (by omega)
                · skip
                  have i_119 := i_eq rfl (show (1 : Int32).toInt = 1 by decide) c_69
                  refine ⟨fun c_70 => ?_, fun c_70 => ?_⟩
                  · skip
                    have f_120 : 0 ≤ (gI z_57 36).toInt ∧ (gI z_57 36).toInt ≤ 300 := tz_57.1 36
                    have q_121 := (ocz_57.fi 36 (by decide))
                    have i_122 := i_le rfl rfl c_70
                    exact L_88 (((gI z 36).toInt - (gI z_57 38).toInt).toNat + 1)  z_57 tz_57 ocz_57 (by omega) (by omega)
                  · skip
                    have f_123 : 0 ≤ (gI z_57 36).toInt ∧ (gI z_57 36).toInt ≤ 300 := tz_57.1 36
                    have q_124 := (ocz_57.fi 36 (by decide))
                    have i_125 := i_nle rfl rfl c_70
                    refine ⟨vin rfl (by omega) (by omega), ?_⟩
                    have q_126 := (ocz_57.ff 25 (gI z_57 38).toNatClampNeg (by decide))
                    refine s_X9_isSmall (gF z_57 25 (gI z_57 38).toNatClampNeg) z_57 _ tz_57  (fun r_71 hp_127 => ?_)
                    rcases hp_127 with ⟨er_71, hp_127⟩ | ⟨er_71, hp_127⟩
                    · subst er_71
                      refine ⟨fun hc => absurd hc (by decide), fun _ => ?_⟩
                      intro K_73 hK_128
                      refine ⟨fun c_77 => ?_, fun c_77 => ?_⟩
                      · skip
                        have f_129 : 0 ≤ (gI z_57 37).toInt ∧ (gI z_57 37).toInt ≤ 300 := tz_57.1 37
                        have i_130 := i_le (show (7 : Int32).toInt = 7 by decide) (a_sub rfl rfl (by omega) (by omega)) c_77
                        refine hK_128 ((-1 : Int64)) ?_
                        intro z_131 ez_131
                        have tz_131 : TM z_131 := by rw [ez_131]; exact Ty_wJ tz_57
                        have oz_131 : Same [37, 38, 39] [] z z_131 := ocz_57.j ez_131
                        intro z_132 ez_132
                        have f_133 : 0 ≤ (gI z_131 38).toInt ∧ (gI z_131 38).toInt ≤ 300 := tz_131.1 38
                        have q_134 := (show (gI z_131 38).toInt = (gI z_57 38).toInt by rw [ez_131]; rfl)
                        have tz_132 : TM z_132 := by rw [ez_132]; exact Ty_wI tz_131 (show 0 ≤ ((gI z_131 38) + (1 : Int32)).toInt ∧ ((gI z_131 38) + (1 : Int32)).toInt ≤ 300 from by rw [(a_add rfl (show (1 : Int32).toInt = 1 by decide) (by omega) (by omega))]; omega)
                        have oz_132 : Same [37, 38, 39] [] z z_132 := oz_131.i (by decide) ez_132
                        have f_135 : 0 ≤ (gI z_132 38).toInt ∧ (gI z_132 38).toInt ≤ 300 := tz_132.1 38
                        have q_136 := (show (gI z_132 38).toInt = ((gI z_131 38) + (1 : Int32)).toInt by rw [ez_132]; rfl)
                        have q_137 : ((gI z_131 38) + (1 : Int32)).toInt = ((gI z_131 38).toInt + (1)) := (a_add rfl (show (1 : Int32).toInt = 1 by decide) (by omega) (by omega))
                        exact ih_84  z_132 tz_132 oz_132 (by omega) (by omega)
                      · skip
                        have f_138 : 0 ≤ (gI z_57 37).toInt ∧ (gI z_57 37).toInt ≤ 300 := tz_57.1 37
                        have i_139 := i_nle (show (7 : Int32).toInt = 7 by decide) (a_sub rfl rfl (by omega) (by omega)) c_77
                        refine ⟨vin rfl (by omega) (by omega), ?_⟩
                        refine hK_128 (((((gJ z_57 40) * (32 : Int64)) + (Int32.toInt64 (gF z_57 25 (gI z_57 38).toNatClampNeg))) - (96 : Int64))) ?_
                        intro z_140 ez_140
                        have tz_140 : TM z_140 := by rw [ez_140]; exact Ty_wJ tz_57
                        have oz_140 : Same [37, 38, 39] [] z z_140 := ocz_57.j ez_140
                        intro z_141 ez_141
                        have f_142 : 0 ≤ (gI z_140 38).toInt ∧ (gI z_140 38).toInt ≤ 300 := tz_140.1 38
                        have q_143 := (show (gI z_140 38).toInt = (gI z_57 38).toInt by rw [ez_140]; rfl)
                        have tz_141 : TM z_141 := by rw [ez_141]; exact Ty_wI tz_140 (show 0 ≤ ((gI z_140 38) + (1 : Int32)).toInt ∧ ((gI z_140 38) + (1 : Int32)).toInt ≤ 300 from by rw [(a_add rfl (show (1 : Int32).toInt = 1 by decide) (by omega) (by omega))]; omega)
                        have oz_141 : Same [37, 38, 39] [] z z_141 := oz_140.i (by decide) ez_141
                        have f_144 : 0 ≤ (gI z_141 38).toInt ∧ (gI z_141 38).toInt ≤ 300 := tz_141.1 38
                        have q_145 := (show (gI z_141 38).toInt = ((gI z_140 38) + (1 : Int32)).toInt by rw [ez_141]; rfl)
                        have q_146 : ((gI z_140 38) + (1 : Int32)).toInt = ((gI z_140 38).toInt + (1)) := (a_add rfl (show (1 : Int32).toInt = 1 by decide) (by omega) (by omega))
                        exact ih_84  z_141 tz_141 oz_141 (by omega) (by omega)
                    · subst er_71
                      refine ⟨fun _ => ?_, fun hc => absurd (show ((0 : Int32)) = ((0 : Int32)) by decide) hc⟩
                      exact L_88 (((gI z 36).toInt - (gI z_57 38).toInt).toNat + 1)  z_57 tz_57 ocz_57 (by omega) (by omega)
            refine ⟨fun c_78 => ?_, fun c_78 => ?_⟩
            · skip
              have q_147 := (show (gI z_55 39).toInt = (1 : Int32).toInt by rw [ez_55]; rfl)
              have q_148 : (1 : Int32).toInt = (1) := (show (1 : Int32).toInt = 1 by decide)
              have i_149 := i_ne rfl (show (3 : Int32).toInt = 3 by decide) c_78
              have f_150 : 0 ≤ (gI z_55 38).toInt ∧ (gI z_55 38).toInt ≤ 300 := tz_55.1 38
              have q_151 := (((show (gI z_55 38).toInt = (gI z_13 38).toInt by rw [ez_55]; rfl)).trans (show (gI z_13 38).toInt = (gI z_12 38).toInt by rw [ez_13]; rfl)).trans (show (gI z_12 38).toInt = (gI z2 37).toInt by rw [ez_12]; rfl)
              exact L_82 (((gI z 36).toInt - (gI z_55 38).toInt).toNat + 1)  z_55 tz_55 oz_55 (by omega) (by omega)
            · skip
              have q_152 := (show (gI z_55 39).toInt = (1 : Int32).toInt by rw [ez_55]; rfl)
              have q_153 : (1 : Int32).toInt = (1) := (show (1 : Int32).toInt = 1 by decide)
              have i_154 := i_eq rfl (show (3 : Int32).toInt = 3 by decide) c_78
              have f_155 : 0 ≤ (gI z_55 37).toInt ∧ (gI z_55 37).toInt ≤ 300 := tz_55.1 37
              have q_156 := (((show (gI z_55 37).toInt = (gI z_13 37).toInt by rw [ez_55]; rfl)).trans (show (gI z_13 37).toInt = (gI z_12 37).toInt by rw [ez_13]; rfl)).trans (show (gI z_12 37).toInt = (gI z2 37).toInt by rw [ez_12]; rfl)
              refine ⟨vin rfl (by omega) (by omega), ?_⟩
              intro z_79 ez_79
              have tz_79 : TM z_79 := by rw [ez_79]; exact Ty_wJ tz_55
              have oz_79 : Same [37, 38, 39] [] z z_79 := oz_55.j ez_79
              intro z_80 ez_80
              have f_157 : 0 ≤ (gI z_79 38).toInt ∧ (gI z_79 38).toInt ≤ 300 := tz_79.1 38
              have q_158 := ((((show (gI z_79 38).toInt = (gI z_55 38).toInt by rw [ez_79]; rfl)).trans (show (gI z_55 38).toInt = (gI z_13 38).toInt by rw [ez_55]; rfl)).trans (show (gI z_13 38).toInt = (gI z_12 38).toInt by rw [ez_13]; rfl)).trans (show (gI z_12 38).toInt = (gI z2 37).toInt by rw [ez_12]; rfl)
              have tz_80 : TM z_80 := by rw [ez_80]; exact Ty_wI tz_79 (show 0 ≤ ((gI z_79 38) + (1 : Int32)).toInt ∧ ((gI z_79 38) + (1 : Int32)).toInt ≤ 300 from by rw [(a_add rfl (show (1 : Int32).toInt = 1 by decide) (by omega) (by omega))]; omega)
              have oz_80 : Same [37, 38, 39] [] z z_80 := oz_79.i (by decide) ez_80
              have f_159 : 0 ≤ (gI z_80 38).toInt ∧ (gI z_80 38).toInt ≤ 300 := tz_80.1 38
              have q_160 := (show (gI z_80 38).toInt = ((gI z_79 38) + (1 : Int32)).toInt by rw [ez_80]; rfl)
              have q_161 : ((gI z_79 38) + (1 : Int32)).toInt = ((gI z_79 38).toInt + (1)) := (a_add rfl (show (1 : Int32).toInt = 1 by decide) (by omega) (by omega))
              exact L_82 (((gI z 36).toInt - (gI z_80 38).toInt).toNat + 1)  z_80 tz_80 oz_80 (by omega) (by omega)
          · subst er_43
            refine ⟨fun _ => ?_, fun hc => absurd (show ((0 : Int32)) = ((0 : Int32)) by decide) hc⟩
            refine ⟨vin rfl (by omega) (by omega), ?_⟩
            refine s_X9_isDigit (gF z_13 25 (gI z_13 37).toNatClampNeg) z_13 _ tz_13  (fun r_45 hp_162 => ?_)
            rcases hp_162 with ⟨er_45, hp_162⟩ | ⟨er_45, hp_162⟩
            · subst er_45
              refine ⟨fun hc => absurd hc (by decide), fun _ => ?_⟩
              refine hK_47 ((2 : Int32)) ?_
              intro z_163 ez_163
              have tz_163 : TM z_163 := by rw [ez_163]; exact Ty_wI tz_13 trivial
              have oz_163 : Same [37, 38, 39] [] z z_163 := oz_13.i (by decide) ez_163
              intro K_164 hK_189
              have L_190 : ∀ (n : Nat)  (z_165 : St), TM z_165 → Same [37, 38, 39] [] z z_165 → ((gI z_165 38).toInt ≤ (gI z 36).toInt) → ((gI z 36).toInt - (gI z_165 38).toInt).toNat < n → K_164 z_165 := by
                intro n
                induction n with
                | zero => intro z_165 tz_165 ocz_165 w_191 m_193; omega
                | succ n ih_192 =>
                  intro z_165 tz_165 ocz_165 w_191 m_193
                  have f_194 : 0 ≤ (gI z_165 38).toInt ∧ (gI z_165 38).toInt ≤ 300 := tz_165.1 38
                  refine hK_189 z_165 ?_
                  intro K_166 hK_195
                  have L_196 : ∀ (n : Nat)  (z_167 : St), TM z_167 → Same [37, 38, 39] [] z z_167 → ((gI z_167 38).toInt ≤ (gI z 36).toInt) → ((gI z 36).toInt - (gI z_167 38).toInt).toNat < n → K_166 z_167 := by
                    intro n
                    induction n with
                    | zero => intro z_167 tz_167 ocz_167 w_197 m_199; omega
                    | succ n ih_198 =>
                      intro z_167 tz_167 ocz_167 w_197 m_199
                      have f_200 : 0 ≤ (gI z_167 38).toInt ∧ (gI z_167 38).toInt ≤ 300 := tz_167.1 38
                      refine hK_195 z_167 ?_
                      refine ⟨fun c_168 => ?_, fun c_168 => ?_⟩
                      · skip
                        have i_201 := i_ne rfl (show (2 : Int32).toInt = 2 by decide) c_168
                        exact hk z_167 tz_167 ocz_167 (by omega)
                      · skip
                        have i_202 := i_eq rfl (show (2 : Int32).toInt = 2 by decide) c_168
                        refine ⟨fun c_169 => ?_, fun c_169 => ?_⟩
                        · skip
                          have f_203 : 0 ≤ (gI z_167 36).toInt ∧ (gI z_167 36).toInt ≤ 300 := tz_167.1 36
                          have q_204 := (ocz_167.fi 36 (by decide))
                          have i_205 := i_le rfl rfl c_169
                          exact hk z_167 tz_167 ocz_167 (by omega)
                        · skip
                          have f_206 : 0 ≤ (gI z_167 36).toInt ∧ (gI z_167 36).toInt ≤ 300 := tz_167.1 36
                          have q_207 := (ocz_167.fi 36 (by decide))
                          have i_208 := i_nle rfl rfl c_169
                          refine ⟨vin rfl (by omega) (by omega), ?_⟩
                          have q_209 := (ocz_167.ff 25 (gI z_167 38).toNatClampNeg (by decide))
                          refine s_X9_isDigit (gF z_167 25 (gI z_167 38).toNatClampNeg) z_167 _ tz_167  (fun r_170 hp_210 => ?_)
                          rcases hp_210 with ⟨er_170, hp_210⟩ | ⟨er_170, hp_210⟩
                          · subst er_170
                            refine ⟨fun hc => absurd hc (by decide), fun _ => ?_⟩
                            intro K_172 hK_211
                            refine ⟨fun c_176 => ?_, fun c_176 => ?_⟩
                            · skip
                              refine ⟨vin rfl (by omega) (by omega), ?_⟩
                              refine hK_211 (((((gJ z_167 40) * (10 : Int64)) + (Int32.toInt64 (gF z_167 25 (gI z_167 38).toNatClampNeg))) - (48 : Int64))) ?_
                              intro z_212 ez_212
                              have tz_212 : TM z_212 := by rw [ez_212]; exact Ty_wJ tz_167
                              have oz_212 : Same [37, 38, 39] [] z z_212 := ocz_167.j ez_212
                              intro z_213 ez_213
                              have f_214 : 0 ≤ (gI z_212 38).toInt ∧ (gI z_212 38).toInt ≤ 300 := tz_212.1 38
                              have q_215 := (show (gI z_212 38).toInt = (gI z_167 38).toInt by rw [ez_212]; rfl)
                              have tz_213 : TM z_213 := by rw [ez_213]; exact Ty_wI tz_212 (show 0 ≤ ((gI z_212 38) + (1 : Int32)).toInt ∧ ((gI z_212 38) + (1 : Int32)).toInt ≤ 300 from by rw [(a_add rfl (show (1 : Int32).toInt = 1 by decide) (by omega) (by omega))]; omega)
                              have oz_213 : Same [37, 38, 39] [] z z_213 := oz_212.i (by decide) ez_213
                              have f_216 : 0 ≤ (gI z_213 38).toInt ∧ (gI z_213 38).toInt ≤ 300 := tz_213.1 38
                              have q_217 := (show (gI z_213 38).toInt = ((gI z_212 38) + (1 : Int32)).toInt by rw [ez_213]; rfl)
                              have q_218 : ((gI z_212 38) + (1 : Int32)).toInt = ((gI z_212 38).toInt + (1)) := (a_add rfl (show (1 : Int32).toInt = 1 by decide) (by omega) (by omega))
                              exact ih_198  z_213 tz_213 oz_213 (by omega) (by omega)
                            · skip
                              refine hK_211 ((gJ z_167 40)) ?_
                              intro z_219 ez_219
                              have tz_219 : TM z_219 := by rw [ez_219]; exact Ty_wJ tz_167
                              have oz_219 : Same [37, 38, 39] [] z z_219 := ocz_167.j ez_219
                              intro z_220 ez_220
                              have f_221 : 0 ≤ (gI z_219 38).toInt ∧ (gI z_219 38).toInt ≤ 300 := tz_219.1 38
                              have q_222 := (show (gI z_219 38).toInt = (gI z_167 38).toInt by rw [ez_219]; rfl)
                              have tz_220 : TM z_220 := by rw [ez_220]; exact Ty_wI tz_219 (show 0 ≤ ((gI z_219 38) + (1 : Int32)).toInt ∧ ((gI z_219 38) + (1 : Int32)).toInt ≤ 300 from by rw [(a_add rfl (show (1 : Int32).toInt = 1 by decide) (by omega) (by omega))]; omega)
                              have oz_220 : Same [37, 38, 39] [] z z_220 := oz_219.i (by decide) ez_220
                              have f_223 : 0 ≤ (gI z_220 38).toInt ∧ (gI z_220 38).toInt ≤ 300 := tz_220.1 38
                              have q_224 := (show (gI z_220 38).toInt = ((gI z_219 38) + (1 : Int32)).toInt by rw [ez_220]; rfl)
                              have q_225 : ((gI z_219 38) + (1 : Int32)).toInt = ((gI z_219 38).toInt + (1)) := (a_add rfl (show (1 : Int32).toInt = 1 by decide) (by omega) (by omega))
                              exact ih_198  z_220 tz_220 oz_220 (by omega) (by omega)
                          · subst er_170
                            refine ⟨fun _ => ?_, fun hc => absurd (show ((0 : Int32)) = ((0 : Int32)) by decide) hc⟩
                            exact hk z_167 tz_167 ocz_167 (by omega)
                  refine ⟨fun c_177 => ?_, fun c_177 => ?_⟩
                  · skip
                    have i_226 := i_ne rfl (show (1 : Int32).toInt = 1 by decide) c_177
                    exact L_196 (((gI z 36).toInt - (gI z_165 38).toInt).toNat + 1)  z_165 tz_165 ocz_165 (by omega) (by omega)
                  · skip
                    have i_227 := i_eq rfl (show (1 : Int32).toInt = 1 by decide) c_177
                    refine ⟨fun c_178 => ?_, fun c_178 => ?_⟩
                    · skip
                      have f_228 : 0 ≤ (gI z_165 36).toInt ∧ (gI z_165 36).toInt ≤ 300 := tz_165.1 36
                      have q_229 := (ocz_165.fi 36 (by decide))
                      have i_230 := i_le rfl rfl c_178
                      exact L_196 (((gI z 36).toInt - (gI z_165 38).toInt).toNat + 1)  z_165 tz_165 ocz_165 (by omega) (by omega)
                    · skip
                      have f_231 : 0 ≤ (gI z_165 36).toInt ∧ (gI z_165 36).toInt ≤ 300 := tz_165.1 36
                      have q_232 := (ocz_165.fi 36 (by decide))
                      have i_233 := i_nle rfl rfl c_178
                      refine ⟨vin rfl (by omega) (by omega), ?_⟩
                      have q_234 := (ocz_165.ff 25 (gI z_165 38).toNatClampNeg (by decide))
                      refine s_X9_isSmall (gF z_165 25 (gI z_165 38).toNatClampNeg) z_165 _ tz_165  (fun r_179 hp_235 => ?_)
                      rcases hp_235 with ⟨er_179, hp_235⟩ | ⟨er_179, hp_235⟩
                      · subst er_179
                        refine ⟨fun hc => absurd hc (by decide), fun _ => ?_⟩
                        intro K_181 hK_236
                        refine ⟨fun c_185 => ?_, fun c_185 => ?_⟩
                        · skip
                          have f_237 : 0 ≤ (gI z_165 37).toInt ∧ (gI z_165 37).toInt ≤ 300 := tz_165.1 37
                          have i_238 := i_le (show (7 : Int32).toInt = 7 by decide) (a_sub rfl rfl (by omega) (by omega)) c_185
                          refine hK_236 ((-1 : Int64)) ?_
                          intro z_239 ez_239
                          have tz_239 : TM z_239 := by rw [ez_239]; exact Ty_wJ tz_165
                          have oz_239 : Same [37, 38, 39] [] z z_239 := ocz_165.j ez_239
                          intro z_240 ez_240
                          have f_241 : 0 ≤ (gI z_239 38).toInt ∧ (gI z_239 38).toInt ≤ 300 := tz_239.1 38
                          have q_242 := (show (gI z_239 38).toInt = (gI z_165 38).toInt by rw [ez_239]; rfl)
                          have tz_240 : TM z_240 := by rw [ez_240]; exact Ty_wI tz_239 (show 0 ≤ ((gI z_239 38) + (1 : Int32)).toInt ∧ ((gI z_239 38) + (1 : Int32)).toInt ≤ 300 from by rw [(a_add rfl (show (1 : Int32).toInt = 1 by decide) (by omega) (by omega))]; omega)
                          have oz_240 : Same [37, 38, 39] [] z z_240 := oz_239.i (by decide) ez_240
                          have f_243 : 0 ≤ (gI z_240 38).toInt ∧ (gI z_240 38).toInt ≤ 300 := tz_240.1 38
                          have q_244 := (show (gI z_240 38).toInt = ((gI z_239 38) + (1 : Int32)).toInt by rw [ez_240]; rfl)
                          have q_245 : ((gI z_239 38) + (1 : Int32)).toInt = ((gI z_239 38).toInt + (1)) := (a_add rfl (show (1 : Int32).toInt = 1 by decide) (by omega) (by omega))
                          exact ih_192  z_240 tz_240 oz_240 (by omega) (by omega)
                        · skip
                          have f_246 : 0 ≤ (gI z_165 37).toInt ∧ (gI z_165 37).toInt ≤ 300 := tz_165.1 37
                          have i_247 := i_nle (show (7 : Int32).toInt = 7 by decide) (a_sub rfl rfl (by omega) (by omega)) c_185
                          refine ⟨vin rfl (by omega) (by omega), ?_⟩
                          refine hK_236 (((((gJ z_165 40) * (32 : Int64)) + (Int32.toInt64 (gF z_165 25 (gI z_165 38).toNatClampNeg))) - (96 : Int64))) ?_
                          intro z_248 ez_248
                          have tz_248 : TM z_248 := by rw [ez_248]; exact Ty_wJ tz_165
                          have oz_248 : Same [37, 38, 39] [] z z_248 := ocz_165.j ez_248
                          intro z_249 ez_249
                          have f_250 : 0 ≤ (gI z_248 38).toInt ∧ (gI z_248 38).toInt ≤ 300 := tz_248.1 38
                          have q_251 := (show (gI z_248 38).toInt = (gI z_165 38).toInt by rw [ez_248]; rfl)
                          have tz_249 : TM z_249 := by rw [ez_249]; exact Ty_wI tz_248 (show 0 ≤ ((gI z_248 38) + (1 : Int32)).toInt ∧ ((gI z_248 38) + (1 : Int32)).toInt ≤ 300 from by rw [(a_add rfl (show (1 : Int32).toInt = 1 by decide) (by omega) (by omega))]; omega)
                          have oz_249 : Same [37, 38, 39] [] z z_249 := oz_248.i (by decide) ez_249
                          have f_252 : 0 ≤ (gI z_249 38).toInt ∧ (gI z_249 38).toInt ≤ 300 := tz_249.1 38
                          have q_253 := (show (gI z_249 38).toInt = ((gI z_248 38) + (1 : Int32)).toInt by rw [ez_249]; rfl)
                          have q_254 : ((gI z_248 38) + (1 : Int32)).toInt = ((gI z_248 38).toInt + (1)) := (a_add rfl (show (1 : Int32).toInt = 1 by decide) (by omega) (by omega))
                          exact ih_192  z_249 tz_249 oz_249 (by omega) (by omega)
                      · subst er_179
                        refine ⟨fun _ => ?_, fun hc => absurd (show ((0 : Int32)) = ((0 : Int32)) by decide) hc⟩
                        exact L_196 (((gI z 36).toInt - (gI z_165 38).toInt).toNat + 1)  z_165 tz_165 ocz_165 (by omega) (by omega)
              refine ⟨fun c_186 => ?_, fun c_186 => ?_⟩
              · skip
                have q_255 := (show (gI z_163 39).toInt = (2 : Int32).toInt by rw [ez_163]; rfl)
                have q_256 : (2 : Int32).toInt = (2) := (show (2 : Int32).toInt = 2 by decide)
                have i_257 := i_ne rfl (show (3 : Int32).toInt = 3 by decide) c_186
                have f_258 : 0 ≤ (gI z_163 38).toInt ∧ (gI z_163 38).toInt ≤ 300 := tz_163.1 38
                have q_259 := (((show (gI z_163 38).toInt = (gI z_13 38).toInt by rw [ez_163]; rfl)).trans (show (gI z_13 38).toInt = (gI z_12 38).toInt by rw [ez_13]; rfl)).trans (show (gI z_12 38).toInt = (gI z2 37).toInt by rw [ez_12]; rfl)
                exact L_190 (((gI z 36).toInt - (gI z_163 38).toInt).toNat + 1)  z_163 tz_163 oz_163 (by omega) (by omega)
              · skip
                have q_260 := (show (gI z_163 39).toInt = (2 : Int32).toInt by rw [ez_163]; rfl)
                have q_261 : (2 : Int32).toInt = (2) := (show (2 : Int32).toInt = 2 by decide)
                have i_262 := i_eq rfl (show (3 : Int32).toInt = 3 by decide) c_186
                have f_263 : 0 ≤ (gI z_163 37).toInt ∧ (gI z_163 37).toInt ≤ 300 := tz_163.1 37
                have q_264 := (((show (gI z_163 37).toInt = (gI z_13 37).toInt by rw [ez_163]; rfl)).trans (show (gI z_13 37).toInt = (gI z_12 37).toInt by rw [ez_13]; rfl)).trans (show (gI z_12 37).toInt = (gI z2 37).toInt by rw [ez_12]; rfl)
                refine ⟨vin rfl (by omega) (by omega), ?_⟩
                intro z_187 ez_187
                have tz_187 : TM z_187 := by rw [ez_187]; exact Ty_wJ tz_163
                have oz_187 : Same [37, 38, 39] [] z z_187 := oz_163.j ez_187
                intro z_188 ez_188
                have f_265 : 0 ≤ (gI z_187 38).toInt ∧ (gI z_187 38).toInt ≤ 300 := tz_187.1 38
                have q_266 := ((((show (gI z_187 38).toInt = (gI z_163 38).toInt by rw [ez_187]; rfl)).trans (show (gI z_163 38).toInt = (gI z_13 38).toInt by rw [ez_163]; rfl)).trans (show (gI z_13 38).toInt = (gI z_12 38).toInt by rw [ez_13]; rfl)).trans (show (gI z_12 38).toInt = (gI z2 37).toInt by rw [ez_12]; rfl)
                have tz_188 : TM z_188 := by rw [ez_188]; exact Ty_wI tz_187 (show 0 ≤ ((gI z_187 38) + (1 : Int32)).toInt ∧ ((gI z_187 38) + (1 : Int32)).toInt ≤ 300 from by rw [(a_add rfl (show (1 : Int32).toInt = 1 by decide) (by omega) (by omega))]; omega)
                have oz_188 : Same [37, 38, 39] [] z z_188 := oz_187.i (by decide) ez_188
                have f_267 : 0 ≤ (gI z_188 38).toInt ∧ (gI z_188 38).toInt ≤ 300 := tz_188.1 38
                have q_268 := (show (gI z_188 38).toInt = ((gI z_187 38) + (1 : Int32)).toInt by rw [ez_188]; rfl)
                have q_269 : ((gI z_187 38) + (1 : Int32)).toInt = ((gI z_187 38).toInt + (1)) := (a_add rfl (show (1 : Int32).toInt = 1 by decide) (by omega) (by omega))
                exact L_190 (((gI z 36).toInt - (gI z_188 38).toInt).toNat + 1)  z_188 tz_188 oz_188 (by omega) (by omega)
            · subst er_45
              refine ⟨fun _ => ?_, fun hc => absurd (show ((0 : Int32)) = ((0 : Int32)) by decide) hc⟩
              refine hK_47 ((3 : Int32)) ?_
              intro z_270 ez_270
              have tz_270 : TM z_270 := by rw [ez_270]; exact Ty_wI tz_13 trivial
              have oz_270 : Same [37, 38, 39] [] z z_270 := oz_13.i (by decide) ez_270
              intro K_271 hK_296
              have L_297 : ∀ (n : Nat)  (z_272 : St), TM z_272 → Same [37, 38, 39] [] z z_272 → ((gI z_272 38).toInt ≤ (gI z 36).toInt) → ((gI z 36).toInt - (gI z_272 38).toInt).toNat < n → K_271 z_272 := by
                intro n
                induction n with
                | zero => intro z_272 tz_272 ocz_272 w_298 m_300; omega
                | succ n ih_299 =>
                  intro z_272 tz_272 ocz_272 w_298 m_300
                  have f_301 : 0 ≤ (gI z_272 38).toInt ∧ (gI z_272 38).toInt ≤ 300 := tz_272.1 38
                  refine hK_296 z_272 ?_
                  intro K_273 hK_302
                  have L_303 : ∀ (n : Nat)  (z_274 : St), TM z_274 → Same [37, 38, 39] [] z z_274 → ((gI z_274 38).toInt ≤ (gI z 36).toInt) → ((gI z 36).toInt - (gI z_274 38).toInt).toNat < n → K_273 z_274 := by
                    intro n
                    induction n with
                    | zero => intro z_274 tz_274 ocz_274 w_304 m_306; omega
                    | succ n ih_305 =>
                      intro z_274 tz_274 ocz_274 w_304 m_306
                      have f_307 : 0 ≤ (gI z_274 38).toInt ∧ (gI z_274 38).toInt ≤ 300 := tz_274.1 38
                      refine hK_302 z_274 ?_
                      refine ⟨fun c_275 => ?_, fun c_275 => ?_⟩
                      · skip
                        have i_308 := i_ne rfl (show (2 : Int32).toInt = 2 by decide) c_275
                        exact hk z_274 tz_274 ocz_274 (by omega)
                      · skip
                        have i_309 := i_eq rfl (show (2 : Int32).toInt = 2 by decide) c_275
                        refine ⟨fun c_276 => ?_, fun c_276 => ?_⟩
                        · skip
                          have f_310 : 0 ≤ (gI z_274 36).toInt ∧ (gI z_274 36).toInt ≤ 300 := tz_274.1 36
                          have q_311 := (ocz_274.fi 36 (by decide))
                          have i_312 := i_le rfl rfl c_276
                          exact hk z_274 tz_274 ocz_274 (by omega)
                        · skip
                          have f_313 : 0 ≤ (gI z_274 36).toInt ∧ (gI z_274 36).toInt ≤ 300 := tz_274.1 36
                          have q_314 := (ocz_274.fi 36 (by decide))
                          have i_315 := i_nle rfl rfl c_276
                          refine ⟨vin rfl (by omega) (by omega), ?_⟩
                          have q_316 := (ocz_274.ff 25 (gI z_274 38).toNatClampNeg (by decide))
                          refine s_X9_isDigit (gF z_274 25 (gI z_274 38).toNatClampNeg) z_274 _ tz_274  (fun r_277 hp_317 => ?_)
                          rcases hp_317 with ⟨er_277, hp_317⟩ | ⟨er_277, hp_317⟩
                          · subst er_277
                            refine ⟨fun hc => absurd hc (by decide), fun _ => ?_⟩
                            intro K_279 hK_318
                            refine ⟨fun c_283 => ?_, fun c_283 => ?_⟩
                            · skip
                              refine ⟨vin rfl (by omega) (by omega), ?_⟩
                              refine hK_318 (((((gJ z_274 40) * (10 : Int64)) + (Int32.toInt64 (gF z_274 25 (gI z_274 38).toNatClampNeg))) - (48 : Int64))) ?_
                              intro z_319 ez_319
                              have tz_319 : TM z_319 := by rw [ez_319]; exact Ty_wJ tz_274
                              have oz_319 : Same [37, 38, 39] [] z z_319 := ocz_274.j ez_319
                              intro z_320 ez_320
                              have f_321 : 0 ≤ (gI z_319 38).toInt ∧ (gI z_319 38).toInt ≤ 300 := tz_319.1 38
                              have q_322 := (show (gI z_319 38).toInt = (gI z_274 38).toInt by rw [ez_319]; rfl)
                              have tz_320 : TM z_320 := by rw [ez_320]; exact Ty_wI tz_319 (show 0 ≤ ((gI z_319 38) + (1 : Int32)).toInt ∧ ((gI z_319 38) + (1 : Int32)).toInt ≤ 300 from by rw [(a_add rfl (show (1 : Int32).toInt = 1 by decide) (by omega) (by omega))]; omega)
                              have oz_320 : Same [37, 38, 39] [] z z_320 := oz_319.i (by decide) ez_320
                              have f_323 : 0 ≤ (gI z_320 38).toInt ∧ (gI z_320 38).toInt ≤ 300 := tz_320.1 38
                              have q_324 := (show (gI z_320 38).toInt = ((gI z_319 38) + (1 : Int32)).toInt by rw [ez_320]; rfl)
                              have q_325 : ((gI z_319 38) + (1 : Int32)).toInt = ((gI z_319 38).toInt + (1)) := (a_add rfl (show (1 : Int32).toInt = 1 by decide) (by omega) (by omega))
                              exact ih_305  z_320 tz_320 oz_320 (by omega) (by omega)
                            · skip
                              refine hK_318 ((gJ z_274 40)) ?_
                              intro z_326 ez_326
                              have tz_326 : TM z_326 := by rw [ez_326]; exact Ty_wJ tz_274
                              have oz_326 : Same [37, 38, 39] [] z z_326 := ocz_274.j ez_326
                              intro z_327 ez_327
                              have f_328 : 0 ≤ (gI z_326 38).toInt ∧ (gI z_326 38).toInt ≤ 300 := tz_326.1 38
                              have q_329 := (show (gI z_326 38).toInt = (gI z_274 38).toInt by rw [ez_326]; rfl)
                              have tz_327 : TM z_327 := by rw [ez_327]; exact Ty_wI tz_326 (show 0 ≤ ((gI z_326 38) + (1 : Int32)).toInt ∧ ((gI z_326 38) + (1 : Int32)).toInt ≤ 300 from by rw [(a_add rfl (show (1 : Int32).toInt = 1 by decide) (by omega) (by omega))]; omega)
                              have oz_327 : Same [37, 38, 39] [] z z_327 := oz_326.i (by decide) ez_327
                              have f_330 : 0 ≤ (gI z_327 38).toInt ∧ (gI z_327 38).toInt ≤ 300 := tz_327.1 38
                              have q_331 := (show (gI z_327 38).toInt = ((gI z_326 38) + (1 : Int32)).toInt by rw [ez_327]; rfl)
                              have q_332 : ((gI z_326 38) + (1 : Int32)).toInt = ((gI z_326 38).toInt + (1)) := (a_add rfl (show (1 : Int32).toInt = 1 by decide) (by omega) (by omega))
                              exact ih_305  z_327 tz_327 oz_327 (by omega) (by omega)
                          · subst er_277
                            refine ⟨fun _ => ?_, fun hc => absurd (show ((0 : Int32)) = ((0 : Int32)) by decide) hc⟩
                            exact hk z_274 tz_274 ocz_274 (by omega)
                  refine ⟨fun c_284 => ?_, fun c_284 => ?_⟩
                  · skip
                    have i_333 := i_ne rfl (show (1 : Int32).toInt = 1 by decide) c_284
                    exact L_303 (((gI z 36).toInt - (gI z_272 38).toInt).toNat + 1)  z_272 tz_272 ocz_272 (by omega) (by omega)
                  · skip
                    have i_334 := i_eq rfl (show (1 : Int32).toInt = 1 by decide) c_284
                    refine ⟨fun c_285 => ?_, fun c_285 => ?_⟩
                    · skip
                      have f_335 : 0 ≤ (gI z_272 36).toInt ∧ (gI z_272 36).toInt ≤ 300 := tz_272.1 36
                      have q_336 := (ocz_272.fi 36 (by decide))
                      have i_337 := i_le rfl rfl c_285
                      exact L_303 (((gI z 36).toInt - (gI z_272 38).toInt).toNat + 1)  z_272 tz_272 ocz_272 (by omega) (by omega)
                    · skip
                      have f_338 : 0 ≤ (gI z_272 36).toInt ∧ (gI z_272 36).toInt ≤ 300 := tz_272.1 36
                      have q_339 := (ocz_272.fi 36 (by decide))
                      have i_340 := i_nle rfl rfl c_285
                      refine ⟨vin rfl (by omega) (by omega), ?_⟩
                      have q_341 := (ocz_272.ff 25 (gI z_272 38).toNatClampNeg (by decide))
                      refine s_X9_isSmall (gF z_272 25 (gI z_272 38).toNatClampNeg) z_272 _ tz_272  (fun r_286 hp_342 => ?_)
                      rcases hp_342 with ⟨er_286, hp_342⟩ | ⟨er_286, hp_342⟩
                      · subst er_286
                        refine ⟨fun hc => absurd hc (by decide), fun _ => ?_⟩
                        intro K_288 hK_343
                        refine ⟨fun c_292 => ?_, fun c_292 => ?_⟩
                        · skip
                          have f_344 : 0 ≤ (gI z_272 37).toInt ∧ (gI z_272 37).toInt ≤ 300 := tz_272.1 37
                          have i_345 := i_le (show (7 : Int32).toInt = 7 by decide) (a_sub rfl rfl (by omega) (by omega)) c_292
                          refine hK_343 ((-1 : Int64)) ?_
                          intro z_346 ez_346
                          have tz_346 : TM z_346 := by rw [ez_346]; exact Ty_wJ tz_272
                          have oz_346 : Same [37, 38, 39] [] z z_346 := ocz_272.j ez_346
                          intro z_347 ez_347
                          have f_348 : 0 ≤ (gI z_346 38).toInt ∧ (gI z_346 38).toInt ≤ 300 := tz_346.1 38
                          have q_349 := (show (gI z_346 38).toInt = (gI z_272 38).toInt by rw [ez_346]; rfl)
                          have tz_347 : TM z_347 := by rw [ez_347]; exact Ty_wI tz_346 (show 0 ≤ ((gI z_346 38) + (1 : Int32)).toInt ∧ ((gI z_346 38) + (1 : Int32)).toInt ≤ 300 from by rw [(a_add rfl (show (1 : Int32).toInt = 1 by decide) (by omega) (by omega))]; omega)
                          have oz_347 : Same [37, 38, 39] [] z z_347 := oz_346.i (by decide) ez_347
                          have f_350 : 0 ≤ (gI z_347 38).toInt ∧ (gI z_347 38).toInt ≤ 300 := tz_347.1 38
                          have q_351 := (show (gI z_347 38).toInt = ((gI z_346 38) + (1 : Int32)).toInt by rw [ez_347]; rfl)
                          have q_352 : ((gI z_346 38) + (1 : Int32)).toInt = ((gI z_346 38).toInt + (1)) := (a_add rfl (show (1 : Int32).toInt = 1 by decide) (by omega) (by omega))
                          exact ih_299  z_347 tz_347 oz_347 (by omega) (by omega)
                        · skip
                          have f_353 : 0 ≤ (gI z_272 37).toInt ∧ (gI z_272 37).toInt ≤ 300 := tz_272.1 37
                          have i_354 := i_nle (show (7 : Int32).toInt = 7 by decide) (a_sub rfl rfl (by omega) (by omega)) c_292
                          refine ⟨vin rfl (by omega) (by omega), ?_⟩
                          refine hK_343 (((((gJ z_272 40) * (32 : Int64)) + (Int32.toInt64 (gF z_272 25 (gI z_272 38).toNatClampNeg))) - (96 : Int64))) ?_
                          intro z_355 ez_355
                          have tz_355 : TM z_355 := by rw [ez_355]; exact Ty_wJ tz_272
                          have oz_355 : Same [37, 38, 39] [] z z_355 := ocz_272.j ez_355
                          intro z_356 ez_356
                          have f_357 : 0 ≤ (gI z_355 38).toInt ∧ (gI z_355 38).toInt ≤ 300 := tz_355.1 38
                          have q_358 := (show (gI z_355 38).toInt = (gI z_272 38).toInt by rw [ez_355]; rfl)
                          have tz_356 : TM z_356 := by rw [ez_356]; exact Ty_wI tz_355 (show 0 ≤ ((gI z_355 38) + (1 : Int32)).toInt ∧ ((gI z_355 38) + (1 : Int32)).toInt ≤ 300 from by rw [(a_add rfl (show (1 : Int32).toInt = 1 by decide) (by omega) (by omega))]; omega)
                          have oz_356 : Same [37, 38, 39] [] z z_356 := oz_355.i (by decide) ez_356
                          have f_359 : 0 ≤ (gI z_356 38).toInt ∧ (gI z_356 38).toInt ≤ 300 := tz_356.1 38
                          have q_360 := (show (gI z_356 38).toInt = ((gI z_355 38) + (1 : Int32)).toInt by rw [ez_356]; rfl)
                          have q_361 : ((gI z_355 38) + (1 : Int32)).toInt = ((gI z_355 38).toInt + (1)) := (a_add rfl (show (1 : Int32).toInt = 1 by decide) (by omega) (by omega))
                          exact ih_299  z_356 tz_356 oz_356 (by omega) (by omega)
                      · subst er_286
                        refine ⟨fun _ => ?_, fun hc => absurd (show ((0 : Int32)) = ((0 : Int32)) by decide) hc⟩
                        exact L_303 (((gI z 36).toInt - (gI z_272 38).toInt).toNat + 1)  z_272 tz_272 ocz_272 (by omega) (by omega)
              refine ⟨fun c_293 => ?_, fun c_293 => ?_⟩
              · skip
                have q_362 := (show (gI z_270 39).toInt = (3 : Int32).toInt by rw [ez_270]; rfl)
                have q_363 : (3 : Int32).toInt = (3) := (show (3 : Int32).toInt = 3 by decide)
                have i_364 := i_ne rfl (show (3 : Int32).toInt = 3 by decide) c_293
                have f_365 : 0 ≤ (gI z_270 38).toInt ∧ (gI z_270 38).toInt ≤ 300 := tz_270.1 38
                have q_366 := (((show (gI z_270 38).toInt = (gI z_13 38).toInt by rw [ez_270]; rfl)).trans (show (gI z_13 38).toInt = (gI z_12 38).toInt by rw [ez_13]; rfl)).trans (show (gI z_12 38).toInt = (gI z2 37).toInt by rw [ez_12]; rfl)
                exact L_297 (((gI z 36).toInt - (gI z_270 38).toInt).toNat + 1)  z_270 tz_270 oz_270 (by omega) (by omega)
              · skip
                have q_367 := (show (gI z_270 39).toInt = (3 : Int32).toInt by rw [ez_270]; rfl)
                have q_368 : (3 : Int32).toInt = (3) := (show (3 : Int32).toInt = 3 by decide)
                have i_369 := i_eq rfl (show (3 : Int32).toInt = 3 by decide) c_293
                have f_370 : 0 ≤ (gI z_270 37).toInt ∧ (gI z_270 37).toInt ≤ 300 := tz_270.1 37
                have q_371 := (((show (gI z_270 37).toInt = (gI z_13 37).toInt by rw [ez_270]; rfl)).trans (show (gI z_13 37).toInt = (gI z_12 37).toInt by rw [ez_13]; rfl)).trans (show (gI z_12 37).toInt = (gI z2 37).toInt by rw [ez_12]; rfl)
                refine ⟨vin rfl (by omega) (by omega), ?_⟩
                intro z_294 ez_294
                have tz_294 : TM z_294 := by rw [ez_294]; exact Ty_wJ tz_270
                have oz_294 : Same [37, 38, 39] [] z z_294 := oz_270.j ez_294
                intro z_295 ez_295
                have f_372 : 0 ≤ (gI z_294 38).toInt ∧ (gI z_294 38).toInt ≤ 300 := tz_294.1 38
                have q_373 := ((((show (gI z_294 38).toInt = (gI z_270 38).toInt by rw [ez_294]; rfl)).trans (show (gI z_270 38).toInt = (gI z_13 38).toInt by rw [ez_270]; rfl)).trans (show (gI z_13 38).toInt = (gI z_12 38).toInt by rw [ez_13]; rfl)).trans (show (gI z_12 38).toInt = (gI z2 37).toInt by rw [ez_12]; rfl)
                have tz_295 : TM z_295 := by rw [ez_295]; exact Ty_wI tz_294 (show 0 ≤ ((gI z_294 38) + (1 : Int32)).toInt ∧ ((gI z_294 38) + (1 : Int32)).toInt ≤ 300 from by rw [(a_add rfl (show (1 : Int32).toInt = 1 by decide) (by omega) (by omega))]; omega)
                have oz_295 : Same [37, 38, 39] [] z z_295 := oz_294.i (by decide) ez_295
                have f_374 : 0 ≤ (gI z_295 38).toInt ∧ (gI z_295 38).toInt ≤ 300 := tz_295.1 38
                have q_375 := (show (gI z_295 38).toInt = ((gI z_294 38) + (1 : Int32)).toInt by rw [ez_295]; rfl)
                have q_376 : ((gI z_294 38) + (1 : Int32)).toInt = ((gI z_294 38).toInt + (1)) := (a_add rfl (show (1 : Int32).toInt = 1 by decide) (by omega) (by omega))
                exact L_297 (((gI z 36).toInt - (gI z_295 38).toInt).toNat + 1)  z_295 tz_295 oz_295 (by omega) (by omega)
        · skip
          have f_377 : 0 ≤ (gI z_13 37).toInt ∧ (gI z_13 37).toInt ≤ 300 := tz_13.1 37
          have q_378 := ((show (gI z_13 37).toInt = (gI z_12 37).toInt by rw [ez_13]; rfl)).trans (show (gI z_12 37).toInt = (gI z2 37).toInt by rw [ez_12]; rfl)
          have f_379 : 0 ≤ (gI z_13 36).toInt ∧ (gI z_13 36).toInt ≤ 300 := tz_13.1 36
          have q_380 := (((show (gI z_13 36).toInt = (gI z_12 36).toInt by rw [ez_13]; rfl)).trans (show (gI z_12 36).toInt = (gI z2 36).toInt by rw [ez_12]; rfl)).trans (ocz2.fi 36 (by decide))
          have i_381 := i_eq rfl rfl c_42
          refine hK_47 ((0 : Int32)) ?_
          intro z_382 ez_382
          have tz_382 : TM z_382 := by rw [ez_382]; exact Ty_wI tz_13 trivial
          have oz_382 : Same [37, 38, 39] [] z z_382 := oz_13.i (by decide) ez_382
          intro K_383 hK_408
          have L_409 : ∀ (n : Nat)  (z_384 : St), TM z_384 → Same [37, 38, 39] [] z z_384 → ((gI z_384 38).toInt ≤ (gI z 36).toInt) → ((gI z 36).toInt - (gI z_384 38).toInt).toNat < n → K_383 z_384 := by
            intro n
            induction n with
            | zero => intro z_384 tz_384 ocz_384 w_410 m_412; omega
            | succ n ih_411 =>
              intro z_384 tz_384 ocz_384 w_410 m_412
              have f_413 : 0 ≤ (gI z_384 38).toInt ∧ (gI z_384 38).toInt ≤ 300 := tz_384.1 38
              refine hK_408 z_384 ?_
              intro K_385 hK_414
              have L_415 : ∀ (n : Nat)  (z_386 : St), TM z_386 → Same [37, 38, 39] [] z z_386 → ((gI z_386 38).toInt ≤ (gI z 36).toInt) → ((gI z 36).toInt - (gI z_386 38).toInt).toNat < n → K_385 z_386 := by
                intro n
                induction n with
                | zero => intro z_386 tz_386 ocz_386 w_416 m_418; omega
                | succ n ih_417 =>
                  intro z_386 tz_386 ocz_386 w_416 m_418
                  have f_419 : 0 ≤ (gI z_386 38).toInt ∧ (gI z_386 38).toInt ≤ 300 := tz_386.1 38
                  refine hK_414 z_386 ?_
                  refine ⟨fun c_387 => ?_, fun c_387 => ?_⟩
                  · skip
                    have i_420 := i_ne rfl (show (2 : Int32).toInt = 2 by decide) c_387
                    exact hk z_386 tz_386 ocz_386 (by omega)
                  · skip
                    have i_421 := i_eq rfl (show (2 : Int32).toInt = 2 by decide) c_387
                    refine ⟨fun c_388 => ?_, fun c_388 => ?_⟩
                    · skip
                      have f_422 : 0 ≤ (gI z_386 36).toInt ∧ (gI z_386 36).toInt ≤ 300 := tz_386.1 36
                      have q_423 := (ocz_386.fi 36 (by decide))
                      have i_424 := i_le rfl rfl c_388
                      exact hk z_386 tz_386 ocz_386 (by omega)
                    · skip
                      have f_425 : 0 ≤ (gI z_386 36).toInt ∧ (gI z_386 36).toInt ≤ 300 := tz_386.1 36
                      have q_426 := (ocz_386.fi 36 (by decide))
                      have i_427 := i_nle rfl rfl c_388
                      refine ⟨vin rfl (by omega) (by omega), ?_⟩
                      have q_428 := (ocz_386.ff 25 (gI z_386 38).toNatClampNeg (by decide))
                      refine s_X9_isDigit (gF z_386 25 (gI z_386 38).toNatClampNeg) z_386 _ tz_386  (fun r_389 hp_429 => ?_)
                      rcases hp_429 with ⟨er_389, hp_429⟩ | ⟨er_389, hp_429⟩
                      · subst er_389
                        refine ⟨fun hc => absurd hc (by decide), fun _ => ?_⟩
                        intro K_391 hK_430
                        refine ⟨fun c_395 => ?_, fun c_395 => ?_⟩
                        · skip
                          refine ⟨vin rfl (by omega) (by omega), ?_⟩
                          refine hK_430 (((((gJ z_386 40) * (10 : Int64)) + (Int32.toInt64 (gF z_386 25 (gI z_386 38).toNatClampNeg))) - (48 : Int64))) ?_
                          intro z_431 ez_431
                          have tz_431 : TM z_431 := by rw [ez_431]; exact Ty_wJ tz_386
                          have oz_431 : Same [37, 38, 39] [] z z_431 := ocz_386.j ez_431
                          intro z_432 ez_432
                          have f_433 : 0 ≤ (gI z_431 38).toInt ∧ (gI z_431 38).toInt ≤ 300 := tz_431.1 38
                          have q_434 := (show (gI z_431 38).toInt = (gI z_386 38).toInt by rw [ez_431]; rfl)
                          have tz_432 : TM z_432 := by rw [ez_432]; exact Ty_wI tz_431 (show 0 ≤ ((gI z_431 38) + (1 : Int32)).toInt ∧ ((gI z_431 38) + (1 : Int32)).toInt ≤ 300 from by rw [(a_add rfl (show (1 : Int32).toInt = 1 by decide) (by omega) (by omega))]; omega)
                          have oz_432 : Same [37, 38, 39] [] z z_432 := oz_431.i (by decide) ez_432
                          have f_435 : 0 ≤ (gI z_432 38).toInt ∧ (gI z_432 38).toInt ≤ 300 := tz_432.1 38
                          have q_436 := (show (gI z_432 38).toInt = ((gI z_431 38) + (1 : Int32)).toInt by rw [ez_432]; rfl)
                          have q_437 : ((gI z_431 38) + (1 : Int32)).toInt = ((gI z_431 38).toInt + (1)) := (a_add rfl (show (1 : Int32).toInt = 1 by decide) (by omega) (by omega))
                          exact ih_417  z_432 tz_432 oz_432 (by omega) (by omega)
                        · skip
                          refine hK_430 ((gJ z_386 40)) ?_
                          intro z_438 ez_438
                          have tz_438 : TM z_438 := by rw [ez_438]; exact Ty_wJ tz_386
                          have oz_438 : Same [37, 38, 39] [] z z_438 := ocz_386.j ez_438
                          intro z_439 ez_439
                          have f_440 : 0 ≤ (gI z_438 38).toInt ∧ (gI z_438 38).toInt ≤ 300 := tz_438.1 38
                          have q_441 := (show (gI z_438 38).toInt = (gI z_386 38).toInt by rw [ez_438]; rfl)
                          have tz_439 : TM z_439 := by rw [ez_439]; exact Ty_wI tz_438 (show 0 ≤ ((gI z_438 38) + (1 : Int32)).toInt ∧ ((gI z_438 38) + (1 : Int32)).toInt ≤ 300 from by rw [(a_add rfl (show (1 : Int32).toInt = 1 by decide) (by omega) (by omega))]; omega)
                          have oz_439 : Same [37, 38, 39] [] z z_439 := oz_438.i (by decide) ez_439
                          have f_442 : 0 ≤ (gI z_439 38).toInt ∧ (gI z_439 38).toInt ≤ 300 := tz_439.1 38
                          have q_443 := (show (gI z_439 38).toInt = ((gI z_438 38) + (1 : Int32)).toInt by rw [ez_439]; rfl)
                          have q_444 : ((gI z_438 38) + (1 : Int32)).toInt = ((gI z_438 38).toInt + (1)) := (a_add rfl (show (1 : Int32).toInt = 1 by decide) (by omega) (by omega))
                          exact ih_417  z_439 tz_439 oz_439 (by omega) (by omega)
                      · subst er_389
                        refine ⟨fun _ => ?_, fun hc => absurd (show ((0 : Int32)) = ((0 : Int32)) by decide) hc⟩
                        exact hk z_386 tz_386 ocz_386 (by omega)
              refine ⟨fun c_396 => ?_, fun c_396 => ?_⟩
              · skip
                have i_445 := i_ne rfl (show (1 : Int32).toInt = 1 by decide) c_396
                exact L_415 (((gI z 36).toInt - (gI z_384 38).toInt).toNat + 1)  z_384 tz_384 ocz_384 (by omega) (by omega)
              · skip
                have i_446 := i_eq rfl (show (1 : Int32).toInt = 1 by decide) c_396
                refine ⟨fun c_397 => ?_, fun c_397 => ?_⟩
                · skip
                  have f_447 : 0 ≤ (gI z_384 36).toInt ∧ (gI z_384 36).toInt ≤ 300 := tz_384.1 36
                  have q_448 := (ocz_384.fi 36 (by decide))
                  have i_449 := i_le rfl rfl c_397
                  exact L_415 (((gI z 36).toInt - (gI z_384 38).toInt).toNat + 1)  z_384 tz_384 ocz_384 (by omega) (by omega)
                · skip
                  have f_450 : 0 ≤ (gI z_384 36).toInt ∧ (gI z_384 36).toInt ≤ 300 := tz_384.1 36
                  have q_451 := (ocz_384.fi 36 (by decide))
                  have i_452 := i_nle rfl rfl c_397
                  refine ⟨vin rfl (by omega) (by omega), ?_⟩
                  have q_453 := (ocz_384.ff 25 (gI z_384 38).toNatClampNeg (by decide))
                  refine s_X9_isSmall (gF z_384 25 (gI z_384 38).toNatClampNeg) z_384 _ tz_384  (fun r_398 hp_454 => ?_)
                  rcases hp_454 with ⟨er_398, hp_454⟩ | ⟨er_398, hp_454⟩
                  · subst er_398
                    refine ⟨fun hc => absurd hc (by decide), fun _ => ?_⟩
                    intro K_400 hK_455
                    refine ⟨fun c_404 => ?_, fun c_404 => ?_⟩
                    · skip
                      have f_456 : 0 ≤ (gI z_384 37).toInt ∧ (gI z_384 37).toInt ≤ 300 := tz_384.1 37
                      have i_457 := i_le (show (7 : Int32).toInt = 7 by decide) (a_sub rfl rfl (by omega) (by omega)) c_404
                      refine hK_455 ((-1 : Int64)) ?_
                      intro z_458 ez_458
                      have tz_458 : TM z_458 := by rw [ez_458]; exact Ty_wJ tz_384
                      have oz_458 : Same [37, 38, 39] [] z z_458 := ocz_384.j ez_458
                      intro z_459 ez_459
                      have f_460 : 0 ≤ (gI z_458 38).toInt ∧ (gI z_458 38).toInt ≤ 300 := tz_458.1 38
                      have q_461 := (show (gI z_458 38).toInt = (gI z_384 38).toInt by rw [ez_458]; rfl)
                      have tz_459 : TM z_459 := by rw [ez_459]; exact Ty_wI tz_458 (show 0 ≤ ((gI z_458 38) + (1 : Int32)).toInt ∧ ((gI z_458 38) + (1 : Int32)).toInt ≤ 300 from by rw [(a_add rfl (show (1 : Int32).toInt = 1 by decide) (by omega) (by omega))]; omega)
                      have oz_459 : Same [37, 38, 39] [] z z_459 := oz_458.i (by decide) ez_459
                      have f_462 : 0 ≤ (gI z_459 38).toInt ∧ (gI z_459 38).toInt ≤ 300 := tz_459.1 38
                      have q_463 := (show (gI z_459 38).toInt = ((gI z_458 38) + (1 : Int32)).toInt by rw [ez_459]; rfl)
                      have q_464 : ((gI z_458 38) + (1 : Int32)).toInt = ((gI z_458 38).toInt + (1)) := (a_add rfl (show (1 : Int32).toInt = 1 by decide) (by omega) (by omega))
                      exact ih_411  z_459 tz_459 oz_459 (by omega) (by omega)
                    · skip
                      have f_465 : 0 ≤ (gI z_384 37).toInt ∧ (gI z_384 37).toInt ≤ 300 := tz_384.1 37
                      have i_466 := i_nle (show (7 : Int32).toInt = 7 by decide) (a_sub rfl rfl (by omega) (by omega)) c_404
                      refine ⟨vin rfl (by omega) (by omega), ?_⟩
                      refine hK_455 (((((gJ z_384 40) * (32 : Int64)) + (Int32.toInt64 (gF z_384 25 (gI z_384 38).toNatClampNeg))) - (96 : Int64))) ?_
                      intro z_467 ez_467
                      have tz_467 : TM z_467 := by rw [ez_467]; exact Ty_wJ tz_384
                      have oz_467 : Same [37, 38, 39] [] z z_467 := ocz_384.j ez_467
                      intro z_468 ez_468
                      have f_469 : 0 ≤ (gI z_467 38).toInt ∧ (gI z_467 38).toInt ≤ 300 := tz_467.1 38
                      have q_470 := (show (gI z_467 38).toInt = (gI z_384 38).toInt by rw [ez_467]; rfl)
                      have tz_468 : TM z_468 := by rw [ez_468]; exact Ty_wI tz_467 (show 0 ≤ ((gI z_467 38) + (1 : Int32)).toInt ∧ ((gI z_467 38) + (1 : Int32)).toInt ≤ 300 from by rw [(a_add rfl (show (1 : Int32).toInt = 1 by decide) (by omega) (by omega))]; omega)
                      have oz_468 : Same [37, 38, 39] [] z z_468 := oz_467.i (by decide) ez_468
                      have f_471 : 0 ≤ (gI z_468 38).toInt ∧ (gI z_468 38).toInt ≤ 300 := tz_468.1 38
                      have q_472 := (show (gI z_468 38).toInt = ((gI z_467 38) + (1 : Int32)).toInt by rw [ez_468]; rfl)
                      have q_473 : ((gI z_467 38) + (1 : Int32)).toInt = ((gI z_467 38).toInt + (1)) := (a_add rfl (show (1 : Int32).toInt = 1 by decide) (by omega) (by omega))
                      exact ih_411  z_468 tz_468 oz_468 (by omega) (by omega)
                  · subst er_398
                    refine ⟨fun _ => ?_, fun hc => absurd (show ((0 : Int32)) = ((0 : Int32)) by decide) hc⟩
                    exact L_415 (((gI z 36).toInt - (gI z_384 38).toInt).toNat + 1)  z_384 tz_384 ocz_384 (by omega) (by omega)
          refine ⟨fun c_405 => ?_, fun c_405 => ?_⟩
          · skip
            have q_474 := (show (gI z_382 39).toInt = (0 : Int32).toInt by rw [ez_382]; rfl)
            have q_475 : (0 : Int32).toInt = (0) := (show (0 : Int32).toInt = 0 by decide)
            have i_476 := i_ne rfl (show (3 : Int32).toInt = 3 by decide) c_405
            have f_477 : 0 ≤ (gI z_382 38).toInt ∧ (gI z_382 38).toInt ≤ 300 := tz_382.1 38
            have q_478 := (((show (gI z_382 38).toInt = (gI z_13 38).toInt by rw [ez_382]; rfl)).trans (show (gI z_13 38).toInt = (gI z_12 38).toInt by rw [ez_13]; rfl)).trans (show (gI z_12 38).toInt = (gI z2 37).toInt by rw [ez_12]; rfl)
            exact L_409 (((gI z 36).toInt - (gI z_382 38).toInt).toNat + 1)  z_382 tz_382 oz_382 (by omega) (by omega)
          · skip
            have q_479 := (show (gI z_382 39).toInt = (0 : Int32).toInt by rw [ez_382]; rfl)
            have q_480 : (0 : Int32).toInt = (0) := (show (0 : Int32).toInt = 0 by decide)
            have i_481 := i_eq rfl (show (3 : Int32).toInt = 3 by decide) c_405
            have f_482 : 0 ≤ (gI z_382 37).toInt ∧ (gI z_382 37).toInt ≤ 300 := tz_382.1 37
            have q_483 := (((show (gI z_382 37).toInt = (gI z_13 37).toInt by rw [ez_382]; rfl)).trans (show (gI z_13 37).toInt = (gI z_12 37).toInt by rw [ez_13]; rfl)).trans (show (gI z_12 37).toInt = (gI z2 37).toInt by rw [ez_12]; rfl)
            refine ⟨vin rfl (by omega) (by omega), ?_⟩
            intro z_406 ez_406
            have tz_406 : TM z_406 := by rw [ez_406]; exact Ty_wJ tz_382
            have oz_406 : Same [37, 38, 39] [] z z_406 := oz_382.j ez_406
            intro z_407 ez_407
            have f_484 : 0 ≤ (gI z_406 38).toInt ∧ (gI z_406 38).toInt ≤ 300 := tz_406.1 38
            have q_485 := ((((show (gI z_406 38).toInt = (gI z_382 38).toInt by rw [ez_406]; rfl)).trans (show (gI z_382 38).toInt = (gI z_13 38).toInt by rw [ez_382]; rfl)).trans (show (gI z_13 38).toInt = (gI z_12 38).toInt by rw [ez_13]; rfl)).trans (show (gI z_12 38).toInt = (gI z2 37).toInt by rw [ez_12]; rfl)
            have tz_407 : TM z_407 := by rw [ez_407]; exact Ty_wI tz_406 (show 0 ≤ ((gI z_406 38) + (1 : Int32)).toInt ∧ ((gI z_406 38) + (1 : Int32)).toInt ≤ 300 from by rw [(a_add rfl (show (1 : Int32).toInt = 1 by decide) (by omega) (by omega))]; omega)
            have oz_407 : Same [37, 38, 39] [] z z_407 := oz_406.i (by decide) ez_407
            have f_486 : 0 ≤ (gI z_407 38).toInt ∧ (gI z_407 38).toInt ≤ 300 := tz_407.1 38
            have q_487 := (show (gI z_407 38).toInt = ((gI z_406 38) + (1 : Int32)).toInt by rw [ez_407]; rfl)
            have q_488 : ((gI z_406 38) + (1 : Int32)).toInt = ((gI z_406 38).toInt + (1)) := (a_add rfl (show (1 : Int32).toInt = 1 by decide) (by omega) (by omega))
            exact L_409 (((gI z 36).toInt - (gI z_407 38).toInt).toNat + 1)  z_407 tz_407 oz_407 (by omega) (by omega)
      · skip
        have f_489 : 0 ≤ (gI z2 36).toInt ∧ (gI z2 36).toInt ≤ 300 := tz2.1 36
        have q_490 := (ocz2.fi 36 (by decide))
        have i_491 := i_nle rfl rfl c43
        refine ⟨vin rfl (by omega) (by omega), ?_⟩
        refine ⟨fun c44 => ?_, fun c44 => ?_⟩
        · skip
          have q_492 := (ocz2.ff 25 (gI z2 37).toNatClampNeg (by decide))
          have i_493 := i_ne rfl (show (32 : Int32).toInt = 32 by decide) c44
          refine hK_8  ?_
          intro z_494 ez_494
          have tz_494 : TM z_494 := by rw [ez_494]; exact Ty_wI tz2 (show 0 ≤ (gI z2 37).toInt ∧ (gI z2 37).toInt ≤ 300 from by omega)
          have oz_494 : Same [37, 38, 39] [] z z_494 := ocz2.i (by decide) ez_494
          intro z_495 ez_495
          have tz_495 : TM z_495 := by rw [ez_495]; exact Ty_wJ tz_494
          have oz_495 : Same [37, 38, 39] [] z z_495 := oz_494.j ez_495
          intro K_496 hK_529
          refine ⟨fun c_524 => ?_, fun c_524 => ?_⟩
          · skip
            have f_530 : 0 ≤ (gI z_495 37).toInt ∧ (gI z_495 37).toInt ≤ 300 := tz_495.1 37
            have q_531 := ((show (gI z_495 37).toInt = (gI z_494 37).toInt by rw [ez_495]; rfl)).trans (show (gI z_494 37).toInt = (gI z2 37).toInt by rw [ez_494]; rfl)
            have f_532 : 0 ≤ (gI z_495 36).toInt ∧ (gI z_495 36).toInt ≤ 300 := tz_495.1 36
            have q_533 := (((show (gI z_495 36).toInt = (gI z_494 36).toInt by rw [ez_495]; rfl)).trans (show (gI z_494 36).toInt = (gI z2 36).toInt by rw [ez_494]; rfl)).trans (ocz2.fi 36 (by decide))
            have i_534 := i_ne rfl rfl c_524
            refine ⟨vin rfl (by omega) (by omega), ?_⟩
            have q_535 := (((show (gF z_495 25 (gI z_495 37).toNatClampNeg).toInt = (gF z_494 25 (gI z_495 37).toNatClampNeg).toInt by rw [ez_495]; rfl)).trans (show (gF z_494 25 (gI z_495 37).toNatClampNeg).toInt = (gF z2 25 (gI z_495 37).toNatClampNeg).toInt by rw [ez_494]; rfl)).trans (ocz2.ff 25 (gI z_495 37).toNatClampNeg (by decide))
            refine s_X9_isSmall (gF z_495 25 (gI z_495 37).toNatClampNeg) z_495 _ tz_495  (fun r_525 hp_536 => ?_)
            rcases hp_536 with ⟨er_525, hp_536⟩ | ⟨er_525, hp_536⟩
            · subst er_525
              refine ⟨fun hc => absurd hc (by decide), fun _ => ?_⟩
              refine hK_529 ((1 : Int32)) ?_
              intro z_537 ez_537
              have tz_537 : TM z_537 := by rw [ez_537]; exact Ty_wI tz_495 trivial
              have oz_537 : Same [37, 38, 39] [] z z_537 := oz_495.i (by decide) ez_537
              intro K_538 hK_563
              have L_564 : ∀ (n : Nat)  (z_539 : St), TM z_539 → Same [37, 38, 39] [] z z_539 → ((gI z_539 38).toInt ≤ (gI z 36).toInt) → ((gI z 36).toInt - (gI z_539 38).toInt).toNat < n → K_538 z_539 := by
                intro n
                induction n with
                | zero => intro z_539 tz_539 ocz_539 w_565 m_567; omega
                | succ n ih_566 =>
                  intro z_539 tz_539 ocz_539 w_565 m_567
                  have f_568 : 0 ≤ (gI z_539 38).toInt ∧ (gI z_539 38).toInt ≤ 300 := tz_539.1 38
                  refine hK_563 z_539 ?_
                  intro K_540 hK_569
                  have L_570 : ∀ (n : Nat)  (z_541 : St), TM z_541 → Same [37, 38, 39] [] z z_541 → ((gI z_541 38).toInt ≤ (gI z 36).toInt) → ((gI z 36).toInt - (gI z_541 38).toInt).toNat < n → K_540 z_541 := by
                    intro n
                    induction n with
                    | zero => intro z_541 tz_541 ocz_541 w_571 m_573; omega
                    | succ n ih_572 =>
                      intro z_541 tz_541 ocz_541 w_571 m_573
                      have f_574 : 0 ≤ (gI z_541 38).toInt ∧ (gI z_541 38).toInt ≤ 300 := tz_541.1 38
                      refine hK_569 z_541 ?_
                      refine ⟨fun c_542 => ?_, fun c_542 => ?_⟩
                      · skip
                        have i_575 := i_ne rfl (show (2 : Int32).toInt = 2 by decide) c_542
                        exact hk z_541 tz_541 ocz_541 (by omega)
                      · skip
                        have i_576 := i_eq rfl (show (2 : Int32).toInt = 2 by decide) c_542
                        refine ⟨fun c_543 => ?_, fun c_543 => ?_⟩
                        · skip
                          have f_577 : 0 ≤ (gI z_541 36).toInt ∧ (gI z_541 36).toInt ≤ 300 := tz_541.1 36
                          have q_578 := (ocz_541.fi 36 (by decide))
                          have i_579 := i_le rfl rfl c_543
                          exact hk z_541 tz_541 ocz_541 (by omega)
                        · skip
                          have f_580 : 0 ≤ (gI z_541 36).toInt ∧ (gI z_541 36).toInt ≤ 300 := tz_541.1 36
                          have q_581 := (ocz_541.fi 36 (by decide))
                          have i_582 := i_nle rfl rfl c_543
                          refine ⟨vin rfl (by omega) (by omega), ?_⟩
                          have q_583 := (ocz_541.ff 25 (gI z_541 38).toNatClampNeg (by decide))
                          refine s_X9_isDigit (gF z_541 25 (gI z_541 38).toNatClampNeg) z_541 _ tz_541  (fun r_544 hp_584 => ?_)
                          rcases hp_584 with ⟨er_544, hp_584⟩ | ⟨er_544, hp_584⟩
                          · subst er_544
                            refine ⟨fun hc => absurd hc (by decide), fun _ => ?_⟩
                            intro K_546 hK_585
                            refine ⟨fun c_550 => ?_, fun c_550 => ?_⟩
                            · skip
                              refine ⟨vin rfl (by omega) (by omega), ?_⟩
                              refine hK_585 (((((gJ z_541 40) * (10 : Int64)) + (Int32.toInt64 (gF z_541 25 (gI z_541 38).toNatClampNeg))) - (48 : Int64))) ?_
                              intro z_586 ez_586
                              have tz_586 : TM z_586 := by rw [ez_586]; exact Ty_wJ tz_541
                              have oz_586 : Same [37, 38, 39] [] z z_586 := ocz_541.j ez_586
                              intro z_587 ez_587
                              have f_588 : 0 ≤ (gI z_586 38).toInt ∧ (gI z_586 38).toInt ≤ 300 := tz_586.1 38
                              have q_589 := (show (gI z_586 38).toInt = (gI z_541 38).toInt by rw [ez_586]; rfl)
                              have tz_587 : TM z_587 := by rw [ez_587]; exact Ty_wI tz_586 (show 0 ≤ ((gI z_586 38) + (1 : Int32)).toInt ∧ ((gI z_586 38) + (1 : Int32)).toInt ≤ 300 from by rw [(a_add rfl (show (1 : Int32).toInt = 1 by decide) (by omega) (by omega))]; omega)
                              have oz_587 : Same [37, 38, 39] [] z z_587 := oz_586.i (by decide) ez_587
                              have f_590 : 0 ≤ (gI z_587 38).toInt ∧ (gI z_587 38).toInt ≤ 300 := tz_587.1 38
                              have q_591 := (show (gI z_587 38).toInt = ((gI z_586 38) + (1 : Int32)).toInt by rw [ez_587]; rfl)
                              have q_592 : ((gI z_586 38) + (1 : Int32)).toInt = ((gI z_586 38).toInt + (1)) := (a_add rfl (show (1 : Int32).toInt = 1 by decide) (by omega) (by omega))
                              exact ih_572  z_587 tz_587 oz_587 (by omega) (by omega)
                            · skip
                              refine hK_585 ((gJ z_541 40)) ?_
                              intro z_593 ez_593
                              have tz_593 : TM z_593 := by rw [ez_593]; exact Ty_wJ tz_541
                              have oz_593 : Same [37, 38, 39] [] z z_593 := ocz_541.j ez_593
                              intro z_594 ez_594
                              have f_595 : 0 ≤ (gI z_593 38).toInt ∧ (gI z_593 38).toInt ≤ 300 := tz_593.1 38
                              have q_596 := (show (gI z_593 38).toInt = (gI z_541 38).toInt by rw [ez_593]; rfl)
                              have tz_594 : TM z_594 := by rw [ez_594]; exact Ty_wI tz_593 (show 0 ≤ ((gI z_593 38) + (1 : Int32)).toInt ∧ ((gI z_593 38) + (1 : Int32)).toInt ≤ 300 from by rw [(a_add rfl (show (1 : Int32).toInt = 1 by decide) (by omega) (by omega))]; omega)
                              have oz_594 : Same [37, 38, 39] [] z z_594 := oz_593.i (by decide) ez_594
                              have f_597 : 0 ≤ (gI z_594 38).toInt ∧ (gI z_594 38).toInt ≤ 300 := tz_594.1 38
                              have q_598 := (show (gI z_594 38).toInt = ((gI z_593 38) + (1 : Int32)).toInt by rw [ez_594]; rfl)
                              have q_599 : ((gI z_593 38) + (1 : Int32)).toInt = ((gI z_593 38).toInt + (1)) := (a_add rfl (show (1 : Int32).toInt = 1 by decide) (by omega) (by omega))
                              exact ih_572  z_594 tz_594 oz_594 (by omega) (by omega)
                          · subst er_544
                            refine ⟨fun _ => ?_, fun hc => absurd (show ((0 : Int32)) = ((0 : Int32)) by decide) hc⟩
                            exact hk z_541 tz_541 ocz_541 (by omega)
                  refine ⟨fun c_551 => ?_, fun c_551 => ?_⟩
                  · skip
                    have i_600 := i_ne rfl (show (1 : Int32).toInt = 1 by decide) c_551
                    exact L_570 (((gI z 36).toInt - (gI z_539 38).toInt).toNat + 1)  z_539 tz_539 ocz_539 (by omega) (by omega)
                  · skip
                    have i_601 := i_eq rfl (show (1 : Int32).toInt = 1 by decide) c_551
                    refine ⟨fun c_552 => ?_, fun c_552 => ?_⟩
                    · skip
                      have f_602 : 0 ≤ (gI z_539 36).toInt ∧ (gI z_539 36).toInt ≤ 300 := tz_539.1 36
                      have q_603 := (ocz_539.fi 36 (by decide))
                      have i_604 := i_le rfl rfl c_552
                      exact L_570 (((gI z 36).toInt - (gI z_539 38).toInt).toNat + 1)  z_539 tz_539 ocz_539 (by omega) (by omega)
                    · skip
                      have f_605 : 0 ≤ (gI z_539 36).toInt ∧ (gI z_539 36).toInt ≤ 300 := tz_539.1 36
                      have q_606 := (ocz_539.fi 36 (by decide))
                      have i_607 := i_nle rfl rfl c_552
                      refine ⟨vin rfl (by omega) (by omega), ?_⟩
                      have q_608 := (ocz_539.ff 25 (gI z_539 38).toNatClampNeg (by decide))
                      refine s_X9_isSmall (gF z_539 25 (gI z_539 38).toNatClampNeg) z_539 _ tz_539  (fun r_553 hp_609 => ?_)
                      rcases hp_609 with ⟨er_553, hp_609⟩ | ⟨er_553, hp_609⟩
                      · subst er_553
                        refine ⟨fun hc => absurd hc (by decide), fun _ => ?_⟩
                        intro K_555 hK_610
                        refine ⟨fun c_559 => ?_, fun c_559 => ?_⟩
                        · skip
                          have f_611 : 0 ≤ (gI z_539 37).toInt ∧ (gI z_539 37).toInt ≤ 300 := tz_539.1 37
                          have i_612 := i_le (show (7 : Int32).toInt = 7 by decide) (a_sub rfl rfl (by omega) (by omega)) c_559
                          refine hK_610 ((-1 : Int64)) ?_
                          intro z_613 ez_613
                          have tz_613 : TM z_613 := by rw [ez_613]; exact Ty_wJ tz_539
                          have oz_613 : Same [37, 38, 39] [] z z_613 := ocz_539.j ez_613
                          intro z_614 ez_614
                          have f_615 : 0 ≤ (gI z_613 38).toInt ∧ (gI z_613 38).toInt ≤ 300 := tz_613.1 38
                          have q_616 := (show (gI z_613 38).toInt = (gI z_539 38).toInt by rw [ez_613]; rfl)
                          have tz_614 : TM z_614 := by rw [ez_614]; exact Ty_wI tz_613 (show 0 ≤ ((gI z_613 38) + (1 : Int32)).toInt ∧ ((gI z_613 38) + (1 : Int32)).toInt ≤ 300 from by rw [(a_add rfl (show (1 : Int32).toInt = 1 by decide) (by omega) (by omega))]; omega)
                          have oz_614 : Same [37, 38, 39] [] z z_614 := oz_613.i (by decide) ez_614
                          have f_617 : 0 ≤ (gI z_614 38).toInt ∧ (gI z_614 38).toInt ≤ 300 := tz_614.1 38
                          have q_618 := (show (gI z_614 38).toInt = ((gI z_613 38) + (1 : Int32)).toInt by rw [ez_614]; rfl)
                          have q_619 : ((gI z_613 38) + (1 : Int32)).toInt = ((gI z_613 38).toInt + (1)) := (a_add rfl (show (1 : Int32).toInt = 1 by decide) (by omega) (by omega))
                          exact ih_566  z_614 tz_614 oz_614 (by omega) (by omega)
                        · skip
                          have f_620 : 0 ≤ (gI z_539 37).toInt ∧ (gI z_539 37).toInt ≤ 300 := tz_539.1 37
                          have i_621 := i_nle (show (7 : Int32).toInt = 7 by decide) (a_sub rfl rfl (by omega) (by omega)) c_559
                          refine ⟨vin rfl (by omega) (by omega), ?_⟩
                          refine hK_610 (((((gJ z_539 40) * (32 : Int64)) + (Int32.toInt64 (gF z_539 25 (gI z_539 38).toNatClampNeg))) - (96 : Int64))) ?_
                          intro z_622 ez_622
                          have tz_622 : TM z_622 := by rw [ez_622]; exact Ty_wJ tz_539
                          have oz_622 : Same [37, 38, 39] [] z z_622 := ocz_539.j ez_622
                          intro z_623 ez_623
                          have f_624 : 0 ≤ (gI z_622 38).toInt ∧ (gI z_622 38).toInt ≤ 300 := tz_622.1 38
                          have q_625 := (show (gI z_622 38).toInt = (gI z_539 38).toInt by rw [ez_622]; rfl)
                          have tz_623 : TM z_623 := by rw [ez_623]; exact Ty_wI tz_622 (show 0 ≤ ((gI z_622 38) + (1 : Int32)).toInt ∧ ((gI z_622 38) + (1 : Int32)).toInt ≤ 300 from by rw [(a_add rfl (show (1 : Int32).toInt = 1 by decide) (by omega) (by omega))]; omega)
                          have oz_623 : Same [37, 38, 39] [] z z_623 := oz_622.i (by decide) ez_623
                          have f_626 : 0 ≤ (gI z_623 38).toInt ∧ (gI z_623 38).toInt ≤ 300 := tz_623.1 38
                          have q_627 := (show (gI z_623 38).toInt = ((gI z_622 38) + (1 : Int32)).toInt by rw [ez_623]; rfl)
                          have q_628 : ((gI z_622 38) + (1 : Int32)).toInt = ((gI z_622 38).toInt + (1)) := (a_add rfl (show (1 : Int32).toInt = 1 by decide) (by omega) (by omega))
                          exact ih_566  z_623 tz_623 oz_623 (by omega) (by omega)
                      · subst er_553
                        refine ⟨fun _ => ?_, fun hc => absurd (show ((0 : Int32)) = ((0 : Int32)) by decide) hc⟩
                        exact L_570 (((gI z 36).toInt - (gI z_539 38).toInt).toNat + 1)  z_539 tz_539 ocz_539 (by omega) (by omega)
              refine ⟨fun c_560 => ?_, fun c_560 => ?_⟩
              · skip
                have q_629 := (show (gI z_537 39).toInt = (1 : Int32).toInt by rw [ez_537]; rfl)
                have q_630 : (1 : Int32).toInt = (1) := (show (1 : Int32).toInt = 1 by decide)
                have i_631 := i_ne rfl (show (3 : Int32).toInt = 3 by decide) c_560
                have f_632 : 0 ≤ (gI z_537 38).toInt ∧ (gI z_537 38).toInt ≤ 300 := tz_537.1 38
                have q_633 := (((show (gI z_537 38).toInt = (gI z_495 38).toInt by rw [ez_537]; rfl)).trans (show (gI z_495 38).toInt = (gI z_494 38).toInt by rw [ez_495]; rfl)).trans (show (gI z_494 38).toInt = (gI z2 37).toInt by rw [ez_494]; rfl)
                exact L_564 (((gI z 36).toInt - (gI z_537 38).toInt).toNat + 1)  z_537 tz_537 oz_537 (by omega) (by omega)
              · skip
                have q_634 := (show (gI z_537 39).toInt = (1 : Int32).toInt by rw [ez_537]; rfl)
                have q_635 : (1 : Int32).toInt = (1) := (show (1 : Int32).toInt = 1 by decide)
                have i_636 := i_eq rfl (show (3 : Int32).toInt = 3 by decide) c_560
                have f_637 : 0 ≤ (gI z_537 37).toInt ∧ (gI z_537 37).toInt ≤ 300 := tz_537.1 37
                have q_638 := (((show (gI z_537 37).toInt = (gI z_495 37).toInt by rw [ez_537]; rfl)).trans (show (gI z_495 37).toInt = (gI z_494 37).toInt by rw [ez_495]; rfl)).trans (show (gI z_494 37).toInt = (gI z2 37).toInt by rw [ez_494]; rfl)
                refine ⟨vin rfl (by omega) (by omega), ?_⟩
                intro z_561 ez_561
                have tz_561 : TM z_561 := by rw [ez_561]; exact Ty_wJ tz_537
                have oz_561 : Same [37, 38, 39] [] z z_561 := oz_537.j ez_561
                intro z_562 ez_562
                have f_639 : 0 ≤ (gI z_561 38).toInt ∧ (gI z_561 38).toInt ≤ 300 := tz_561.1 38
                have q_640 := ((((show (gI z_561 38).toInt = (gI z_537 38).toInt by rw [ez_561]; rfl)).trans (show (gI z_537 38).toInt = (gI z_495 38).toInt by rw [ez_537]; rfl)).trans (show (gI z_495 38).toInt = (gI z_494 38).toInt by rw [ez_495]; rfl)).trans (show (gI z_494 38).toInt = (gI z2 37).toInt by rw [ez_494]; rfl)
                have tz_562 : TM z_562 := by rw [ez_562]; exact Ty_wI tz_561 (show 0 ≤ ((gI z_561 38) + (1 : Int32)).toInt ∧ ((gI z_561 38) + (1 : Int32)).toInt ≤ 300 from by rw [(a_add rfl (show (1 : Int32).toInt = 1 by decide) (by omega) (by omega))]; omega)
                have oz_562 : Same [37, 38, 39] [] z z_562 := oz_561.i (by decide) ez_562
                have f_641 : 0 ≤ (gI z_562 38).toInt ∧ (gI z_562 38).toInt ≤ 300 := tz_562.1 38
                have q_642 := (show (gI z_562 38).toInt = ((gI z_561 38) + (1 : Int32)).toInt by rw [ez_562]; rfl)
                have q_643 : ((gI z_561 38) + (1 : Int32)).toInt = ((gI z_561 38).toInt + (1)) := (a_add rfl (show (1 : Int32).toInt = 1 by decide) (by omega) (by omega))
                exact L_564 (((gI z 36).toInt - (gI z_562 38).toInt).toNat + 1)  z_562 tz_562 oz_562 (by omega) (by omega)
            · subst er_525
              refine ⟨fun _ => ?_, fun hc => absurd (show ((0 : Int32)) = ((0 : Int32)) by decide) hc⟩
              refine ⟨vin rfl (by omega) (by omega), ?_⟩
              refine s_X9_isDigit (gF z_495 25 (gI z_495 37).toNatClampNeg) z_495 _ tz_495  (fun r_527 hp_644 => ?_)
              rcases hp_644 with ⟨er_527, hp_644⟩ | ⟨er_527, hp_644⟩
              · subst er_527
                refine ⟨fun hc => absurd hc (by decide), fun _ => ?_⟩
                refine hK_529 ((2 : Int32)) ?_
                intro z_645 ez_645
                have tz_645 : TM z_645 := by rw [ez_645]; exact Ty_wI tz_495 trivial
                have oz_645 : Same [37, 38, 39] [] z z_645 := oz_495.i (by decide) ez_645
                intro K_646 hK_671
                have L_672 : ∀ (n : Nat)  (z_647 : St), TM z_647 → Same [37, 38, 39] [] z z_647 → ((gI z_647 38).toInt ≤ (gI z 36).toInt) → ((gI z 36).toInt - (gI z_647 38).toInt).toNat < n → K_646 z_647 := by
                  intro n
                  induction n with
                  | zero => intro z_647 tz_647 ocz_647 w_673 m_675; omega
                  | succ n ih_674 =>
                    intro z_647 tz_647 ocz_647 w_673 m_675
                    have f_676 : 0 ≤ (gI z_647 38).toInt ∧ (gI z_647 38).toInt ≤ 300 := tz_647.1 38
                    refine hK_671 z_647 ?_
                    intro K_648 hK_677
                    have L_678 : ∀ (n : Nat)  (z_649 : St), TM z_649 → Same [37, 38, 39] [] z z_649 → ((gI z_649 38).toInt ≤ (gI z 36).toInt) → ((gI z 36).toInt - (gI z_649 38).toInt).toNat < n → K_648 z_649 := by
                      intro n
                      induction n with
                      | zero => intro z_649 tz_649 ocz_649 w_679 m_681; omega
                      | succ n ih_680 =>
                        intro z_649 tz_649 ocz_649 w_679 m_681
                        have f_682 : 0 ≤ (gI z_649 38).toInt ∧ (gI z_649 38).toInt ≤ 300 := tz_649.1 38
                        refine hK_677 z_649 ?_
                        refine ⟨fun c_650 => ?_, fun c_650 => ?_⟩
                        · skip
                          have i_683 := i_ne rfl (show (2 : Int32).toInt = 2 by decide) c_650
                          exact hk z_649 tz_649 ocz_649 (by omega)
                        · skip
                          have i_684 := i_eq rfl (show (2 : Int32).toInt = 2 by decide) c_650
                          refine ⟨fun c_651 => ?_, fun c_651 => ?_⟩
                          · skip
                            have f_685 : 0 ≤ (gI z_649 36).toInt ∧ (gI z_649 36).toInt ≤ 300 := tz_649.1 36
                            have q_686 := (ocz_649.fi 36 (by decide))
                            have i_687 := i_le rfl rfl c_651
                            exact hk z_649 tz_649 ocz_649 (by omega)
                          · skip
                            have f_688 : 0 ≤ (gI z_649 36).toInt ∧ (gI z_649 36).toInt ≤ 300 := tz_649.1 36
                            have q_689 := (ocz_649.fi 36 (by decide))
                            have i_690 := i_nle rfl rfl c_651
                            refine ⟨vin rfl (by omega) (by omega), ?_⟩
                            have q_691 := (ocz_649.ff 25 (gI z_649 38).toNatClampNeg (by decide))
                            refine s_X9_isDigit (gF z_649 25 (gI z_649 38).toNatClampNeg) z_649 _ tz_649  (fun r_652 hp_692 => ?_)
                            rcases hp_692 with ⟨er_652, hp_692⟩ | ⟨er_652, hp_692⟩
                            · subst er_652
                              refine ⟨fun hc => absurd hc (by decide), fun _ => ?_⟩
                              intro K_654 hK_693
                              refine ⟨fun c_658 => ?_, fun c_658 => ?_⟩
                              · skip
                                refine ⟨vin rfl (by omega) (by omega), ?_⟩
                                refine hK_693 (((((gJ z_649 40) * (10 : Int64)) + (Int32.toInt64 (gF z_649 25 (gI z_649 38).toNatClampNeg))) - (48 : Int64))) ?_
                                intro z_694 ez_694
                                have tz_694 : TM z_694 := by rw [ez_694]; exact Ty_wJ tz_649
                                have oz_694 : Same [37, 38, 39] [] z z_694 := ocz_649.j ez_694
                                intro z_695 ez_695
                                have f_696 : 0 ≤ (gI z_694 38).toInt ∧ (gI z_694 38).toInt ≤ 300 := tz_694.1 38
                                have q_697 := (show (gI z_694 38).toInt = (gI z_649 38).toInt by rw [ez_694]; rfl)
                                have tz_695 : TM z_695 := by rw [ez_695]; exact Ty_wI tz_694 (show 0 ≤ ((gI z_694 38) + (1 : Int32)).toInt ∧ ((gI z_694 38) + (1 : Int32)).toInt ≤ 300 from by rw [(a_add rfl (show (1 : Int32).toInt = 1 by decide) (by omega) (by omega))]; omega)
                                have oz_695 : Same [37, 38, 39] [] z z_695 := oz_694.i (by decide) ez_695
                                have f_698 : 0 ≤ (gI z_695 38).toInt ∧ (gI z_695 38).toInt ≤ 300 := tz_695.1 38
                                have q_699 := (show (gI z_695 38).toInt = ((gI z_694 38) + (1 : Int32)).toInt by rw [ez_695]; rfl)
                                have q_700 : ((gI z_694 38) + (1 : Int32)).toInt = ((gI z_694 38).toInt + (1)) := (a_add rfl (show (1 : Int32).toInt = 1 by decide) (by omega) (by omega))
                                exact ih_680  z_695 tz_695 oz_695 (by omega) (by omega)
                              · skip
                                refine hK_693 ((gJ z_649 40)) ?_
                                intro z_701 ez_701
                                have tz_701 : TM z_701 := by rw [ez_701]; exact Ty_wJ tz_649
                                have oz_701 : Same [37, 38, 39] [] z z_701 := ocz_649.j ez_701
                                intro z_702 ez_702
                                have f_703 : 0 ≤ (gI z_701 38).toInt ∧ (gI z_701 38).toInt ≤ 300 := tz_701.1 38
                                have q_704 := (show (gI z_701 38).toInt = (gI z_649 38).toInt by rw [ez_701]; rfl)
                                have tz_702 : TM z_702 := by rw [ez_702]; exact Ty_wI tz_701 (show 0 ≤ ((gI z_701 38) + (1 : Int32)).toInt ∧ ((gI z_701 38) + (1 : Int32)).toInt ≤ 300 from by rw [(a_add rfl (show (1 : Int32).toInt = 1 by decide) (by omega) (by omega))]; omega)
                                have oz_702 : Same [37, 38, 39] [] z z_702 := oz_701.i (by decide) ez_702
                                have f_705 : 0 ≤ (gI z_702 38).toInt ∧ (gI z_702 38).toInt ≤ 300 := tz_702.1 38
                                have q_706 := (show (gI z_702 38).toInt = ((gI z_701 38) + (1 : Int32)).toInt by rw [ez_702]; rfl)
                                have q_707 : ((gI z_701 38) + (1 : Int32)).toInt = ((gI z_701 38).toInt + (1)) := (a_add rfl (show (1 : Int32).toInt = 1 by decide) (by omega) (by omega))
                                exact ih_680  z_702 tz_702 oz_702 (by omega) (by omega)
                            · subst er_652
                              refine ⟨fun _ => ?_, fun hc => absurd (show ((0 : Int32)) = ((0 : Int32)) by decide) hc⟩
                              exact hk z_649 tz_649 ocz_649 (by omega)
                    refine ⟨fun c_659 => ?_, fun c_659 => ?_⟩
                    · skip
                      have i_708 := i_ne rfl (show (1 : Int32).toInt = 1 by decide) c_659
                      exact L_678 (((gI z 36).toInt - (gI z_647 38).toInt).toNat + 1)  z_647 tz_647 ocz_647 (by omega) (by omega)
                    · skip
                      have i_709 := i_eq rfl (show (1 : Int32).toInt = 1 by decide) c_659
                      refine ⟨fun c_660 => ?_, fun c_660 => ?_⟩
                      · skip
                        have f_710 : 0 ≤ (gI z_647 36).toInt ∧ (gI z_647 36).toInt ≤ 300 := tz_647.1 36
                        have q_711 := (ocz_647.fi 36 (by decide))
                        have i_712 := i_le rfl rfl c_660
                        exact L_678 (((gI z 36).toInt - (gI z_647 38).toInt).toNat + 1)  z_647 tz_647 ocz_647 (by omega) (by omega)
                      · skip
                        have f_713 : 0 ≤ (gI z_647 36).toInt ∧ (gI z_647 36).toInt ≤ 300 := tz_647.1 36
                        have q_714 := (ocz_647.fi 36 (by decide))
                        have i_715 := i_nle rfl rfl c_660
                        refine ⟨vin rfl (by omega) (by omega), ?_⟩
                        have q_716 := (ocz_647.ff 25 (gI z_647 38).toNatClampNeg (by decide))
                        refine s_X9_isSmall (gF z_647 25 (gI z_647 38).toNatClampNeg) z_647 _ tz_647  (fun r_661 hp_717 => ?_)
                        rcases hp_717 with ⟨er_661, hp_717⟩ | ⟨er_661, hp_717⟩
                        · subst er_661
                          refine ⟨fun hc => absurd hc (by decide), fun _ => ?_⟩
                          intro K_663 hK_718
                          refine ⟨fun c_667 => ?_, fun c_667 => ?_⟩
                          · skip
                            have f_719 : 0 ≤ (gI z_647 37).toInt ∧ (gI z_647 37).toInt ≤ 300 := tz_647.1 37
                            have i_720 := i_le (show (7 : Int32).toInt = 7 by decide) (a_sub rfl rfl (by omega) (by omega)) c_667
                            refine hK_718 ((-1 : Int64)) ?_
                            intro z_721 ez_721
                            have tz_721 : TM z_721 := by rw [ez_721]; exact Ty_wJ tz_647
                            have oz_721 : Same [37, 38, 39] [] z z_721 := ocz_647.j ez_721
                            intro z_722 ez_722
                            have f_723 : 0 ≤ (gI z_721 38).toInt ∧ (gI z_721 38).toInt ≤ 300 := tz_721.1 38
                            have q_724 := (show (gI z_721 38).toInt = (gI z_647 38).toInt by rw [ez_721]; rfl)
                            have tz_722 : TM z_722 := by rw [ez_722]; exact Ty_wI tz_721 (show 0 ≤ ((gI z_721 38) + (1 : Int32)).toInt ∧ ((gI z_721 38) + (1 : Int32)).toInt ≤ 300 from by rw [(a_add rfl (show (1 : Int32).toInt = 1 by decide) (by omega) (by omega))]; omega)
                            have oz_722 : Same [37, 38, 39] [] z z_722 := oz_721.i (by decide) ez_722
                            have f_725 : 0 ≤ (gI z_722 38).toInt ∧ (gI z_722 38).toInt ≤ 300 := tz_722.1 38
                            have q_726 := (show (gI z_722 38).toInt = ((gI z_721 38) + (1 : Int32)).toInt by rw [ez_722]; rfl)
                            have q_727 : ((gI z_721 38) + (1 : Int32)).toInt = ((gI z_721 38).toInt + (1)) := (a_add rfl (show (1 : Int32).toInt = 1 by decide) (by omega) (by omega))
                            exact ih_674  z_722 tz_722 oz_722 (by omega) (by omega)
                          · skip
                            have f_728 : 0 ≤ (gI z_647 37).toInt ∧ (gI z_647 37).toInt ≤ 300 := tz_647.1 37
                            have i_729 := i_nle (show (7 : Int32).toInt = 7 by decide) (a_sub rfl rfl (by omega) (by omega)) c_667
                            refine ⟨vin rfl (by omega) (by omega), ?_⟩
                            refine hK_718 (((((gJ z_647 40) * (32 : Int64)) + (Int32.toInt64 (gF z_647 25 (gI z_647 38).toNatClampNeg))) - (96 : Int64))) ?_
                            intro z_730 ez_730
                            have tz_730 : TM z_730 := by rw [ez_730]; exact Ty_wJ tz_647
                            have oz_730 : Same [37, 38, 39] [] z z_730 := ocz_647.j ez_730
                            intro z_731 ez_731
                            have f_732 : 0 ≤ (gI z_730 38).toInt ∧ (gI z_730 38).toInt ≤ 300 := tz_730.1 38
                            have q_733 := (show (gI z_730 38).toInt = (gI z_647 38).toInt by rw [ez_730]; rfl)
                            have tz_731 : TM z_731 := by rw [ez_731]; exact Ty_wI tz_730 (show 0 ≤ ((gI z_730 38) + (1 : Int32)).toInt ∧ ((gI z_730 38) + (1 : Int32)).toInt ≤ 300 from by rw [(a_add rfl (show (1 : Int32).toInt = 1 by decide) (by omega) (by omega))]; omega)
                            have oz_731 : Same [37, 38, 39] [] z z_731 := oz_730.i (by decide) ez_731
                            have f_734 : 0 ≤ (gI z_731 38).toInt ∧ (gI z_731 38).toInt ≤ 300 := tz_731.1 38
                            have q_735 := (show (gI z_731 38).toInt = ((gI z_730 38) + (1 : Int32)).toInt by rw [ez_731]; rfl)
                            have q_736 : ((gI z_730 38) + (1 : Int32)).toInt = ((gI z_730 38).toInt + (1)) := (a_add rfl (show (1 : Int32).toInt = 1 by decide) (by omega) (by omega))
                            exact ih_674  z_731 tz_731 oz_731 (by omega) (by omega)
                        · subst er_661
                          refine ⟨fun _ => ?_, fun hc => absurd (show ((0 : Int32)) = ((0 : Int32)) by decide) hc⟩
                          exact L_678 (((gI z 36).toInt - (gI z_647 38).toInt).toNat + 1)  z_647 tz_647 ocz_647 (by omega) (by omega)
                refine ⟨fun c_668 => ?_, fun c_668 => ?_⟩
                · skip
                  have q_737 := (show (gI z_645 39).toInt = (2 : Int32).toInt by rw [ez_645]; rfl)
                  have q_738 : (2 : Int32).toInt = (2) := (show (2 : Int32).toInt = 2 by decide)
                  have i_739 := i_ne rfl (show (3 : Int32).toInt = 3 by decide) c_668
                  have f_740 : 0 ≤ (gI z_645 38).toInt ∧ (gI z_645 38).toInt ≤ 300 := tz_645.1 38
                  have q_741 := (((show (gI z_645 38).toInt = (gI z_495 38).toInt by rw [ez_645]; rfl)).trans (show (gI z_495 38).toInt = (gI z_494 38).toInt by rw [ez_495]; rfl)).trans (show (gI z_494 38).toInt = (gI z2 37).toInt by rw [ez_494]; rfl)
                  exact L_672 (((gI z 36).toInt - (gI z_645 38).toInt).toNat + 1)  z_645 tz_645 oz_645 (by omega) (by omega)
                · skip
                  have q_742 := (show (gI z_645 39).toInt = (2 : Int32).toInt by rw [ez_645]; rfl)
                  have q_743 : (2 : Int32).toInt = (2) := (show (2 : Int32).toInt = 2 by decide)
                  have i_744 := i_eq rfl (show (3 : Int32).toInt = 3 by decide) c_668
                  have f_745 : 0 ≤ (gI z_645 37).toInt ∧ (gI z_645 37).toInt ≤ 300 := tz_645.1 37
                  have q_746 := (((show (gI z_645 37).toInt = (gI z_495 37).toInt by rw [ez_645]; rfl)).trans (show (gI z_495 37).toInt = (gI z_494 37).toInt by rw [ez_495]; rfl)).trans (show (gI z_494 37).toInt = (gI z2 37).toInt by rw [ez_494]; rfl)
                  refine ⟨vin rfl (by omega) (by omega), ?_⟩
                  intro z_669 ez_669
                  have tz_669 : TM z_669 := by rw [ez_669]; exact Ty_wJ tz_645
                  have oz_669 : Same [37, 38, 39] [] z z_669 := oz_645.j ez_669
                  intro z_670 ez_670
                  have f_747 : 0 ≤ (gI z_669 38).toInt ∧ (gI z_669 38).toInt ≤ 300 := tz_669.1 38
                  have q_748 := ((((show (gI z_669 38).toInt = (gI z_645 38).toInt by rw [ez_669]; rfl)).trans (show (gI z_645 38).toInt = (gI z_495 38).toInt by rw [ez_645]; rfl)).trans (show (gI z_495 38).toInt = (gI z_494 38).toInt by rw [ez_495]; rfl)).trans (show (gI z_494 38).toInt = (gI z2 37).toInt by rw [ez_494]; rfl)
                  have tz_670 : TM z_670 := by rw [ez_670]; exact Ty_wI tz_669 (show 0 ≤ ((gI z_669 38) + (1 : Int32)).toInt ∧ ((gI z_669 38) + (1 : Int32)).toInt ≤ 300 from by rw [(a_add rfl (show (1 : Int32).toInt = 1 by decide) (by omega) (by omega))]; omega)
                  have oz_670 : Same [37, 38, 39] [] z z_670 := oz_669.i (by decide) ez_670
                  have f_749 : 0 ≤ (gI z_670 38).toInt ∧ (gI z_670 38).toInt ≤ 300 := tz_670.1 38
                  have q_750 := (show (gI z_670 38).toInt = ((gI z_669 38) + (1 : Int32)).toInt by rw [ez_670]; rfl)
                  have q_751 : ((gI z_669 38) + (1 : Int32)).toInt = ((gI z_669 38).toInt + (1)) := (a_add rfl (show (1 : Int32).toInt = 1 by decide) (by omega) (by omega))
                  exact L_672 (((gI z 36).toInt - (gI z_670 38).toInt).toNat + 1)  z_670 tz_670 oz_670 (by omega) (by omega)
              · subst er_527
                refine ⟨fun _ => ?_, fun hc => absurd (show ((0 : Int32)) = ((0 : Int32)) by decide) hc⟩
                refine hK_529 ((3 : Int32)) ?_
                intro z_752 ez_752
                have tz_752 : TM z_752 := by rw [ez_752]; exact Ty_wI tz_495 trivial
                have oz_752 : Same [37, 38, 39] [] z z_752 := oz_495.i (by decide) ez_752
                intro K_753 hK_778
                have L_779 : ∀ (n : Nat)  (z_754 : St), TM z_754 → Same [37, 38, 39] [] z z_754 → ((gI z_754 38).toInt ≤ (gI z 36).toInt) → ((gI z 36).toInt - (gI z_754 38).toInt).toNat < n → K_753 z_754 := by
                  intro n
                  induction n with
                  | zero => intro z_754 tz_754 ocz_754 w_780 m_782; omega
                  | succ n ih_781 =>
                    intro z_754 tz_754 ocz_754 w_780 m_782
                    have f_783 : 0 ≤ (gI z_754 38).toInt ∧ (gI z_754 38).toInt ≤ 300 := tz_754.1 38
                    refine hK_778 z_754 ?_
                    intro K_755 hK_784
                    have L_785 : ∀ (n : Nat)  (z_756 : St), TM z_756 → Same [37, 38, 39] [] z z_756 → ((gI z_756 38).toInt ≤ (gI z 36).toInt) → ((gI z 36).toInt - (gI z_756 38).toInt).toNat < n → K_755 z_756 := by
                      intro n
                      induction n with
                      | zero => intro z_756 tz_756 ocz_756 w_786 m_788; omega
                      | succ n ih_787 =>
                        intro z_756 tz_756 ocz_756 w_786 m_788
                        have f_789 : 0 ≤ (gI z_756 38).toInt ∧ (gI z_756 38).toInt ≤ 300 := tz_756.1 38
                        refine hK_784 z_756 ?_
                        refine ⟨fun c_757 => ?_, fun c_757 => ?_⟩
                        · skip
                          have i_790 := i_ne rfl (show (2 : Int32).toInt = 2 by decide) c_757
                          exact hk z_756 tz_756 ocz_756 (by omega)
                        · skip
                          have i_791 := i_eq rfl (show (2 : Int32).toInt = 2 by decide) c_757
                          refine ⟨fun c_758 => ?_, fun c_758 => ?_⟩
                          · skip
                            have f_792 : 0 ≤ (gI z_756 36).toInt ∧ (gI z_756 36).toInt ≤ 300 := tz_756.1 36
                            have q_793 := (ocz_756.fi 36 (by decide))
                            have i_794 := i_le rfl rfl c_758
                            exact hk z_756 tz_756 ocz_756 (by omega)
                          · skip
                            have f_795 : 0 ≤ (gI z_756 36).toInt ∧ (gI z_756 36).toInt ≤ 300 := tz_756.1 36
                            have q_796 := (ocz_756.fi 36 (by decide))
                            have i_797 := i_nle rfl rfl c_758
                            refine ⟨vin rfl (by omega) (by omega), ?_⟩
                            have q_798 := (ocz_756.ff 25 (gI z_756 38).toNatClampNeg (by decide))
                            refine s_X9_isDigit (gF z_756 25 (gI z_756 38).toNatClampNeg) z_756 _ tz_756  (fun r_759 hp_799 => ?_)
                            rcases hp_799 with ⟨er_759, hp_799⟩ | ⟨er_759, hp_799⟩
                            · subst er_759
                              refine ⟨fun hc => absurd hc (by decide), fun _ => ?_⟩
                              intro K_761 hK_800
                              refine ⟨fun c_765 => ?_, fun c_765 => ?_⟩
                              · skip
                                refine ⟨vin rfl (by omega) (by omega), ?_⟩
                                refine hK_800 (((((gJ z_756 40) * (10 : Int64)) + (Int32.toInt64 (gF z_756 25 (gI z_756 38).toNatClampNeg))) - (48 : Int64))) ?_
                                intro z_801 ez_801
                                have tz_801 : TM z_801 := by rw [ez_801]; exact Ty_wJ tz_756
                                have oz_801 : Same [37, 38, 39] [] z z_801 := ocz_756.j ez_801
                                intro z_802 ez_802
                                have f_803 : 0 ≤ (gI z_801 38).toInt ∧ (gI z_801 38).toInt ≤ 300 := tz_801.1 38
                                have q_804 := (show (gI z_801 38).toInt = (gI z_756 38).toInt by rw [ez_801]; rfl)
                                have tz_802 : TM z_802 := by rw [ez_802]; exact Ty_wI tz_801 (show 0 ≤ ((gI z_801 38) + (1 : Int32)).toInt ∧ ((gI z_801 38) + (1 : Int32)).toInt ≤ 300 from by rw [(a_add rfl (show (1 : Int32).toInt = 1 by decide) (by omega) (by omega))]; omega)
                                have oz_802 : Same [37, 38, 39] [] z z_802 := oz_801.i (by decide) ez_802
                                have f_805 : 0 ≤ (gI z_802 38).toInt ∧ (gI z_802 38).toInt ≤ 300 := tz_802.1 38
                                have q_806 := (show (gI z_802 38).toInt = ((gI z_801 38) + (1 : Int32)).toInt by rw [ez_802]; rfl)
                                have q_807 : ((gI z_801 38) + (1 : Int32)).toInt = ((gI z_801 38).toInt + (1)) := (a_add rfl (show (1 : Int32).toInt = 1 by decide) (by omega) (by omega))
                                exact ih_787  z_802 tz_802 oz_802 (by omega) (by omega)
                              · skip
                                refine hK_800 ((gJ z_756 40)) ?_
                                intro z_808 ez_808
                                have tz_808 : TM z_808 := by rw [ez_808]; exact Ty_wJ tz_756
                                have oz_808 : Same [37, 38, 39] [] z z_808 := ocz_756.j ez_808
                                intro z_809 ez_809
                                have f_810 : 0 ≤ (gI z_808 38).toInt ∧ (gI z_808 38).toInt ≤ 300 := tz_808.1 38
                                have q_811 := (show (gI z_808 38).toInt = (gI z_756 38).toInt by rw [ez_808]; rfl)
                                have tz_809 : TM z_809 := by rw [ez_809]; exact Ty_wI tz_808 (show 0 ≤ ((gI z_808 38) + (1 : Int32)).toInt ∧ ((gI z_808 38) + (1 : Int32)).toInt ≤ 300 from by rw [(a_add rfl (show (1 : Int32).toInt = 1 by decide) (by omega) (by omega))]; omega)
                                have oz_809 : Same [37, 38, 39] [] z z_809 := oz_808.i (by decide) ez_809
                                have f_812 : 0 ≤ (gI z_809 38).toInt ∧ (gI z_809 38).toInt ≤ 300 := tz_809.1 38
                                have q_813 := (show (gI z_809 38).toInt = ((gI z_808 38) + (1 : Int32)).toInt by rw [ez_809]; rfl)
                                have q_814 : ((gI z_808 38) + (1 : Int32)).toInt = ((gI z_808 38).toInt + (1)) := (a_add rfl (show (1 : Int32).toInt = 1 by decide) (by omega) (by omega))
                                exact ih_787  z_809 tz_809 oz_809 (by omega) (by omega)
                            · subst er_759
                              refine ⟨fun _ => ?_, fun hc => absurd (show ((0 : Int32)) = ((0 : Int32)) by decide) hc⟩
                              exact hk z_756 tz_756 ocz_756 (by omega)
                    refine ⟨fun c_766 => ?_, fun c_766 => ?_⟩
                    · skip
                      have i_815 := i_ne rfl (show (1 : Int32).toInt = 1 by decide) c_766
                      exact L_785 (((gI z 36).toInt - (gI z_754 38).toInt).toNat + 1)  z_754 tz_754 ocz_754 (by omega) (by omega)
                    · skip
                      have i_816 := i_eq rfl (show (1 : Int32).toInt = 1 by decide) c_766
                      refine ⟨fun c_767 => ?_, fun c_767 => ?_⟩
                      · skip
                        have f_817 : 0 ≤ (gI z_754 36).toInt ∧ (gI z_754 36).toInt ≤ 300 := tz_754.1 36
                        have q_818 := (ocz_754.fi 36 (by decide))
                        have i_819 := i_le rfl rfl c_767
                        exact L_785 (((gI z 36).toInt - (gI z_754 38).toInt).toNat + 1)  z_754 tz_754 ocz_754 (by omega) (by omega)
                      · skip
                        have f_820 : 0 ≤ (gI z_754 36).toInt ∧ (gI z_754 36).toInt ≤ 300 := tz_754.1 36
                        have q_821 := (ocz_754.fi 36 (by decide))
                        have i_822 := i_nle rfl rfl c_767
                        refine ⟨vin rfl (by omega) (by omega), ?_⟩
                        have q_823 := (ocz_754.ff 25 (gI z_754 38).toNatClampNeg (by decide))
                        refine s_X9_isSmall (gF z_754 25 (gI z_754 38).toNatClampNeg) z_754 _ tz_754  (fun r_768 hp_824 => ?_)
                        rcases hp_824 with ⟨er_768, hp_824⟩ | ⟨er_768, hp_824⟩
                        · subst er_768
                          refine ⟨fun hc => absurd hc (by decide), fun _ => ?_⟩
                          intro K_770 hK_825
                          refine ⟨fun c_774 => ?_, fun c_774 => ?_⟩
                          · skip
                            have f_826 : 0 ≤ (gI z_754 37).toInt ∧ (gI z_754 37).toInt ≤ 300 := tz_754.1 37
                            have i_827 := i_le (show (7 : Int32).toInt = 7 by decide) (a_sub rfl rfl (by omega) (by omega)) c_774
                            refine hK_825 ((-1 : Int64)) ?_
                            intro z_828 ez_828
                            have tz_828 : TM z_828 := by rw [ez_828]; exact Ty_wJ tz_754
                            have oz_828 : Same [37, 38, 39] [] z z_828 := ocz_754.j ez_828
                            intro z_829 ez_829
                            have f_830 : 0 ≤ (gI z_828 38).toInt ∧ (gI z_828 38).toInt ≤ 300 := tz_828.1 38
                            have q_831 := (show (gI z_828 38).toInt = (gI z_754 38).toInt by rw [ez_828]; rfl)
                            have tz_829 : TM z_829 := by rw [ez_829]; exact Ty_wI tz_828 (show 0 ≤ ((gI z_828 38) + (1 : Int32)).toInt ∧ ((gI z_828 38) + (1 : Int32)).toInt ≤ 300 from by rw [(a_add rfl (show (1 : Int32).toInt = 1 by decide) (by omega) (by omega))]; omega)
                            have oz_829 : Same [37, 38, 39] [] z z_829 := oz_828.i (by decide) ez_829
                            have f_832 : 0 ≤ (gI z_829 38).toInt ∧ (gI z_829 38).toInt ≤ 300 := tz_829.1 38
                            have q_833 := (show (gI z_829 38).toInt = ((gI z_828 38) + (1 : Int32)).toInt by rw [ez_829]; rfl)
                            have q_834 : ((gI z_828 38) + (1 : Int32)).toInt = ((gI z_828 38).toInt + (1)) := (a_add rfl (show (1 : Int32).toInt = 1 by decide) (by omega) (by omega))
                            exact ih_781  z_829 tz_829 oz_829 (by omega) (by omega)
                          · skip
                            have f_835 : 0 ≤ (gI z_754 37).toInt ∧ (gI z_754 37).toInt ≤ 300 := tz_754.1 37
                            have i_836 := i_nle (show (7 : Int32).toInt = 7 by decide) (a_sub rfl rfl (by omega) (by omega)) c_774
                            refine ⟨vin rfl (by omega) (by omega), ?_⟩
                            refine hK_825 (((((gJ z_754 40) * (32 : Int64)) + (Int32.toInt64 (gF z_754 25 (gI z_754 38).toNatClampNeg))) - (96 : Int64))) ?_
                            intro z_837 ez_837
                            have tz_837 : TM z_837 := by rw [ez_837]; exact Ty_wJ tz_754
                            have oz_837 : Same [37, 38, 39] [] z z_837 := ocz_754.j ez_837
                            intro z_838 ez_838
                            have f_839 : 0 ≤ (gI z_837 38).toInt ∧ (gI z_837 38).toInt ≤ 300 := tz_837.1 38
                            have q_840 := (show (gI z_837 38).toInt = (gI z_754 38).toInt by rw [ez_837]; rfl)
                            have tz_838 : TM z_838 := by rw [ez_838]; exact Ty_wI tz_837 (show 0 ≤ ((gI z_837 38) + (1 : Int32)).toInt ∧ ((gI z_837 38) + (1 : Int32)).toInt ≤ 300 from by rw [(a_add rfl (show (1 : Int32).toInt = 1 by decide) (by omega) (by omega))]; omega)
                            have oz_838 : Same [37, 38, 39] [] z z_838 := oz_837.i (by decide) ez_838
                            have f_841 : 0 ≤ (gI z_838 38).toInt ∧ (gI z_838 38).toInt ≤ 300 := tz_838.1 38
                            have q_842 := (show (gI z_838 38).toInt = ((gI z_837 38) + (1 : Int32)).toInt by rw [ez_838]; rfl)
                            have q_843 : ((gI z_837 38) + (1 : Int32)).toInt = ((gI z_837 38).toInt + (1)) := (a_add rfl (show (1 : Int32).toInt = 1 by decide) (by omega) (by omega))
                            exact ih_781  z_838 tz_838 oz_838 (by omega) (by omega)
                        · subst er_768
                          refine ⟨fun _ => ?_, fun hc => absurd (show ((0 : Int32)) = ((0 : Int32)) by decide) hc⟩
                          exact L_785 (((gI z 36).toInt - (gI z_754 38).toInt).toNat + 1)  z_754 tz_754 ocz_754 (by omega) (by omega)
                refine ⟨fun c_775 => ?_, fun c_775 => ?_⟩
                · skip
                  have q_844 := (show (gI z_752 39).toInt = (3 : Int32).toInt by rw [ez_752]; rfl)
                  have q_845 : (3 : Int32).toInt = (3) := (show (3 : Int32).toInt = 3 by decide)
                  have i_846 := i_ne rfl (show (3 : Int32).toInt = 3 by decide) c_775
                  have f_847 : 0 ≤ (gI z_752 38).toInt ∧ (gI z_752 38).toInt ≤ 300 := tz_752.1 38
                  have q_848 := (((show (gI z_752 38).toInt = (gI z_495 38).toInt by rw [ez_752]; rfl)).trans (show (gI z_495 38).toInt = (gI z_494 38).toInt by rw [ez_495]; rfl)).trans (show (gI z_494 38).toInt = (gI z2 37).toInt by rw [ez_494]; rfl)
                  exact L_779 (((gI z 36).toInt - (gI z_752 38).toInt).toNat + 1)  z_752 tz_752 oz_752 (by omega) (by omega)
                · skip
                  have q_849 := (show (gI z_752 39).toInt = (3 : Int32).toInt by rw [ez_752]; rfl)
                  have q_850 : (3 : Int32).toInt = (3) := (show (3 : Int32).toInt = 3 by decide)
                  have i_851 := i_eq rfl (show (3 : Int32).toInt = 3 by decide) c_775
                  have f_852 : 0 ≤ (gI z_752 37).toInt ∧ (gI z_752 37).toInt ≤ 300 := tz_752.1 37
                  have q_853 := (((show (gI z_752 37).toInt = (gI z_495 37).toInt by rw [ez_752]; rfl)).trans (show (gI z_495 37).toInt = (gI z_494 37).toInt by rw [ez_495]; rfl)).trans (show (gI z_494 37).toInt = (gI z2 37).toInt by rw [ez_494]; rfl)
                  refine ⟨vin rfl (by omega) (by omega), ?_⟩
                  intro z_776 ez_776
                  have tz_776 : TM z_776 := by rw [ez_776]; exact Ty_wJ tz_752
                  have oz_776 : Same [37, 38, 39] [] z z_776 := oz_752.j ez_776
                  intro z_777 ez_777
                  have f_854 : 0 ≤ (gI z_776 38).toInt ∧ (gI z_776 38).toInt ≤ 300 := tz_776.1 38
                  have q_855 := ((((show (gI z_776 38).toInt = (gI z_752 38).toInt by rw [ez_776]; rfl)).trans (show (gI z_752 38).toInt = (gI z_495 38).toInt by rw [ez_752]; rfl)).trans (show (gI z_495 38).toInt = (gI z_494 38).toInt by rw [ez_495]; rfl)).trans (show (gI z_494 38).toInt = (gI z2 37).toInt by rw [ez_494]; rfl)
                  have tz_777 : TM z_777 := by rw [ez_777]; exact Ty_wI tz_776 (show 0 ≤ ((gI z_776 38) + (1 : Int32)).toInt ∧ ((gI z_776 38) + (1 : Int32)).toInt ≤ 300 from by rw [(a_add rfl (show (1 : Int32).toInt = 1 by decide) (by omega) (by omega))]; omega)
                  have oz_777 : Same [37, 38, 39] [] z z_777 := oz_776.i (by decide) ez_777
                  have f_856 : 0 ≤ (gI z_777 38).toInt ∧ (gI z_777 38).toInt ≤ 300 := tz_777.1 38
                  have q_857 := (show (gI z_777 38).toInt = ((gI z_776 38) + (1 : Int32)).toInt by rw [ez_777]; rfl)
                  have q_858 : ((gI z_776 38) + (1 : Int32)).toInt = ((gI z_776 38).toInt + (1)) := (a_add rfl (show (1 : Int32).toInt = 1 by decide) (by omega) (by omega))
                  exact L_779 (((gI z 36).toInt - (gI z_777 38).toInt).toNat + 1)  z_777 tz_777 oz_777 (by omega) (by omega)
          · skip
            have f_859 : 0 ≤ (gI z_495 37).toInt ∧ (gI z_495 37).toInt ≤ 300 := tz_495.1 37
            have q_860 := ((show (gI z_495 37).toInt = (gI z_494 37).toInt by rw [ez_495]; rfl)).trans (show (gI z_494 37).toInt = (gI z2 37).toInt by rw [ez_494]; rfl)
            have f_861 : 0 ≤ (gI z_495 36).toInt ∧ (gI z_495 36).toInt ≤ 300 := tz_495.1 36
            have q_862 := (((show (gI z_495 36).toInt = (gI z_494 36).toInt by rw [ez_495]; rfl)).trans (show (gI z_494 36).toInt = (gI z2 36).toInt by rw [ez_494]; rfl)).trans (ocz2.fi 36 (by decide))
            have i_863 := i_eq rfl rfl c_524
            refine hK_529 ((0 : Int32)) ?_
            intro z_864 ez_864
            have tz_864 : TM z_864 := by rw [ez_864]; exact Ty_wI tz_495 trivial
            have oz_864 : Same [37, 38, 39] [] z z_864 := oz_495.i (by decide) ez_864
            intro K_865 hK_890
            have L_891 : ∀ (n : Nat)  (z_866 : St), TM z_866 → Same [37, 38, 39] [] z z_866 → ((gI z_866 38).toInt ≤ (gI z 36).toInt) → ((gI z 36).toInt - (gI z_866 38).toInt).toNat < n → K_865 z_866 := by
              intro n
              induction n with
              | zero => intro z_866 tz_866 ocz_866 w_892 m_894; omega
              | succ n ih_893 =>
                intro z_866 tz_866 ocz_866 w_892 m_894
                have f_895 : 0 ≤ (gI z_866 38).toInt ∧ (gI z_866 38).toInt ≤ 300 := tz_866.1 38
                refine hK_890 z_866 ?_
                intro K_867 hK_896
                have L_897 : ∀ (n : Nat)  (z_868 : St), TM z_868 → Same [37, 38, 39] [] z z_868 → ((gI z_868 38).toInt ≤ (gI z 36).toInt) → ((gI z 36).toInt - (gI z_868 38).toInt).toNat < n → K_867 z_868 := by
                  intro n
                  induction n with
                  | zero => intro z_868 tz_868 ocz_868 w_898 m_900; omega
                  | succ n ih_899 =>
                    intro z_868 tz_868 ocz_868 w_898 m_900
                    have f_901 : 0 ≤ (gI z_868 38).toInt ∧ (gI z_868 38).toInt ≤ 300 := tz_868.1 38
                    refine hK_896 z_868 ?_
                    refine ⟨fun c_869 => ?_, fun c_869 => ?_⟩
                    · skip
                      have i_902 := i_ne rfl (show (2 : Int32).toInt = 2 by decide) c_869
                      exact hk z_868 tz_868 ocz_868 (by omega)
                    · skip
                      have i_903 := i_eq rfl (show (2 : Int32).toInt = 2 by decide) c_869
                      refine ⟨fun c_870 => ?_, fun c_870 => ?_⟩
                      · skip
                        have f_904 : 0 ≤ (gI z_868 36).toInt ∧ (gI z_868 36).toInt ≤ 300 := tz_868.1 36
                        have q_905 := (ocz_868.fi 36 (by decide))
                        have i_906 := i_le rfl rfl c_870
                        exact hk z_868 tz_868 ocz_868 (by omega)
                      · skip
                        have f_907 : 0 ≤ (gI z_868 36).toInt ∧ (gI z_868 36).toInt ≤ 300 := tz_868.1 36
                        have q_908 := (ocz_868.fi 36 (by decide))
                        have i_909 := i_nle rfl rfl c_870
                        refine ⟨vin rfl (by omega) (by omega), ?_⟩
                        have q_910 := (ocz_868.ff 25 (gI z_868 38).toNatClampNeg (by decide))
                        refine s_X9_isDigit (gF z_868 25 (gI z_868 38).toNatClampNeg) z_868 _ tz_868  (fun r_871 hp_911 => ?_)
                        rcases hp_911 with ⟨er_871, hp_911⟩ | ⟨er_871, hp_911⟩
                        · subst er_871
                          refine ⟨fun hc => absurd hc (by decide), fun _ => ?_⟩
                          intro K_873 hK_912
                          refine ⟨fun c_877 => ?_, fun c_877 => ?_⟩
                          · skip
                            refine ⟨vin rfl (by omega) (by omega), ?_⟩
                            refine hK_912 (((((gJ z_868 40) * (10 : Int64)) + (Int32.toInt64 (gF z_868 25 (gI z_868 38).toNatClampNeg))) - (48 : Int64))) ?_
                            intro z_913 ez_913
                            have tz_913 : TM z_913 := by rw [ez_913]; exact Ty_wJ tz_868
                            have oz_913 : Same [37, 38, 39] [] z z_913 := ocz_868.j ez_913
                            intro z_914 ez_914
                            have f_915 : 0 ≤ (gI z_913 38).toInt ∧ (gI z_913 38).toInt ≤ 300 := tz_913.1 38
                            have q_916 := (show (gI z_913 38).toInt = (gI z_868 38).toInt by rw [ez_913]; rfl)
                            have tz_914 : TM z_914 := by rw [ez_914]; exact Ty_wI tz_913 (show 0 ≤ ((gI z_913 38) + (1 : Int32)).toInt ∧ ((gI z_913 38) + (1 : Int32)).toInt ≤ 300 from by rw [(a_add rfl (show (1 : Int32).toInt = 1 by decide) (by omega) (by omega))]; omega)
                            have oz_914 : Same [37, 38, 39] [] z z_914 := oz_913.i (by decide) ez_914
                            have f_917 : 0 ≤ (gI z_914 38).toInt ∧ (gI z_914 38).toInt ≤ 300 := tz_914.1 38
                            have q_918 := (show (gI z_914 38).toInt = ((gI z_913 38) + (1 : Int32)).toInt by rw [ez_914]; rfl)
                            have q_919 : ((gI z_913 38) + (1 : Int32)).toInt = ((gI z_913 38).toInt + (1)) := (a_add rfl (show (1 : Int32).toInt = 1 by decide) (by omega) (by omega))
                            exact ih_899  z_914 tz_914 oz_914 (by omega) (by omega)
                          · skip
                            refine hK_912 ((gJ z_868 40)) ?_
                            intro z_920 ez_920
                            have tz_920 : TM z_920 := by rw [ez_920]; exact Ty_wJ tz_868
                            have oz_920 : Same [37, 38, 39] [] z z_920 := ocz_868.j ez_920
                            intro z_921 ez_921
                            have f_922 : 0 ≤ (gI z_920 38).toInt ∧ (gI z_920 38).toInt ≤ 300 := tz_920.1 38
                            have q_923 := (show (gI z_920 38).toInt = (gI z_868 38).toInt by rw [ez_920]; rfl)
                            have tz_921 : TM z_921 := by rw [ez_921]; exact Ty_wI tz_920 (show 0 ≤ ((gI z_920 38) + (1 : Int32)).toInt ∧ ((gI z_920 38) + (1 : Int32)).toInt ≤ 300 from by rw [(a_add rfl (show (1 : Int32).toInt = 1 by decide) (by omega) (by omega))]; omega)
                            have oz_921 : Same [37, 38, 39] [] z z_921 := oz_920.i (by decide) ez_921
                            have f_924 : 0 ≤ (gI z_921 38).toInt ∧ (gI z_921 38).toInt ≤ 300 := tz_921.1 38
                            have q_925 := (show (gI z_921 38).toInt = ((gI z_920 38) + (1 : Int32)).toInt by rw [ez_921]; rfl)
                            have q_926 : ((gI z_920 38) + (1 : Int32)).toInt = ((gI z_920 38).toInt + (1)) := (a_add rfl (show (1 : Int32).toInt = 1 by decide) (by omega) (by omega))
                            exact ih_899  z_921 tz_921 oz_921 (by omega) (by omega)
                        · subst er_871
                          refine ⟨fun _ => ?_, fun hc => absurd (show ((0 : Int32)) = ((0 : Int32)) by decide) hc⟩
                          exact hk z_868 tz_868 ocz_868 (by omega)
                refine ⟨fun c_878 => ?_, fun c_878 => ?_⟩
                · skip
                  have i_927 := i_ne rfl (show (1 : Int32).toInt = 1 by decide) c_878
                  exact L_897 (((gI z 36).toInt - (gI z_866 38).toInt).toNat + 1)  z_866 tz_866 ocz_866 (by omega) (by omega)
                · skip
                  have i_928 := i_eq rfl (show (1 : Int32).toInt = 1 by decide) c_878
                  refine ⟨fun c_879 => ?_, fun c_879 => ?_⟩
                  · skip
                    have f_929 : 0 ≤ (gI z_866 36).toInt ∧ (gI z_866 36).toInt ≤ 300 := tz_866.1 36
                    have q_930 := (ocz_866.fi 36 (by decide))
                    have i_931 := i_le rfl rfl c_879
                    exact L_897 (((gI z 36).toInt - (gI z_866 38).toInt).toNat + 1)  z_866 tz_866 ocz_866 (by omega) (by omega)
                  · skip
                    have f_932 : 0 ≤ (gI z_866 36).toInt ∧ (gI z_866 36).toInt ≤ 300 := tz_866.1 36
                    have q_933 := (ocz_866.fi 36 (by decide))
                    have i_934 := i_nle rfl rfl c_879
                    refine ⟨vin rfl (by omega) (by omega), ?_⟩
                    have q_935 := (ocz_866.ff 25 (gI z_866 38).toNatClampNeg (by decide))
                    refine s_X9_isSmall (gF z_866 25 (gI z_866 38).toNatClampNeg) z_866 _ tz_866  (fun r_880 hp_936 => ?_)
                    rcases hp_936 with ⟨er_880, hp_936⟩ | ⟨er_880, hp_936⟩
                    · subst er_880
                      refine ⟨fun hc => absurd hc (by decide), fun _ => ?_⟩
                      intro K_882 hK_937
                      refine ⟨fun c_886 => ?_, fun c_886 => ?_⟩
                      · skip
                        have f_938 : 0 ≤ (gI z_866 37).toInt ∧ (gI z_866 37).toInt ≤ 300 := tz_866.1 37
                        have i_939 := i_le (show (7 : Int32).toInt = 7 by decide) (a_sub rfl rfl (by omega) (by omega)) c_886
                        refine hK_937 ((-1 : Int64)) ?_
                        intro z_940 ez_940
                        have tz_940 : TM z_940 := by rw [ez_940]; exact Ty_wJ tz_866
                        have oz_940 : Same [37, 38, 39] [] z z_940 := ocz_866.j ez_940
                        intro z_941 ez_941
                        have f_942 : 0 ≤ (gI z_940 38).toInt ∧ (gI z_940 38).toInt ≤ 300 := tz_940.1 38
                        have q_943 := (show (gI z_940 38).toInt = (gI z_866 38).toInt by rw [ez_940]; rfl)
                        have tz_941 : TM z_941 := by rw [ez_941]; exact Ty_wI tz_940 (show 0 ≤ ((gI z_940 38) + (1 : Int32)).toInt ∧ ((gI z_940 38) + (1 : Int32)).toInt ≤ 300 from by rw [(a_add rfl (show (1 : Int32).toInt = 1 by decide) (by omega) (by omega))]; omega)
                        have oz_941 : Same [37, 38, 39] [] z z_941 := oz_940.i (by decide) ez_941
                        have f_944 : 0 ≤ (gI z_941 38).toInt ∧ (gI z_941 38).toInt ≤ 300 := tz_941.1 38
                        have q_945 := (show (gI z_941 38).toInt = ((gI z_940 38) + (1 : Int32)).toInt by rw [ez_941]; rfl)
                        have q_946 : ((gI z_940 38) + (1 : Int32)).toInt = ((gI z_940 38).toInt + (1)) := (a_add rfl (show (1 : Int32).toInt = 1 by decide) (by omega) (by omega))
                        exact ih_893  z_941 tz_941 oz_941 (by omega) (by omega)
                      · skip
                        have f_947 : 0 ≤ (gI z_866 37).toInt ∧ (gI z_866 37).toInt ≤ 300 := tz_866.1 37
                        have i_948 := i_nle (show (7 : Int32).toInt = 7 by decide) (a_sub rfl rfl (by omega) (by omega)) c_886
                        refine ⟨vin rfl (by omega) (by omega), ?_⟩
                        refine hK_937 (((((gJ z_866 40) * (32 : Int64)) + (Int32.toInt64 (gF z_866 25 (gI z_866 38).toNatClampNeg))) - (96 : Int64))) ?_
                        intro z_949 ez_949
                        have tz_949 : TM z_949 := by rw [ez_949]; exact Ty_wJ tz_866
                        have oz_949 : Same [37, 38, 39] [] z z_949 := ocz_866.j ez_949
                        intro z_950 ez_950
                        have f_951 : 0 ≤ (gI z_949 38).toInt ∧ (gI z_949 38).toInt ≤ 300 := tz_949.1 38
                        have q_952 := (show (gI z_949 38).toInt = (gI z_866 38).toInt by rw [ez_949]; rfl)
                        have tz_950 : TM z_950 := by rw [ez_950]; exact Ty_wI tz_949 (show 0 ≤ ((gI z_949 38) + (1 : Int32)).toInt ∧ ((gI z_949 38) + (1 : Int32)).toInt ≤ 300 from by rw [(a_add rfl (show (1 : Int32).toInt = 1 by decide) (by omega) (by omega))]; omega)
                        have oz_950 : Same [37, 38, 39] [] z z_950 := oz_949.i (by decide) ez_950
                        have f_953 : 0 ≤ (gI z_950 38).toInt ∧ (gI z_950 38).toInt ≤ 300 := tz_950.1 38
                        have q_954 := (show (gI z_950 38).toInt = ((gI z_949 38) + (1 : Int32)).toInt by rw [ez_950]; rfl)
                        have q_955 : ((gI z_949 38) + (1 : Int32)).toInt = ((gI z_949 38).toInt + (1)) := (a_add rfl (show (1 : Int32).toInt = 1 by decide) (by omega) (by omega))
                        exact ih_893  z_950 tz_950 oz_950 (by omega) (by omega)
                    · subst er_880
                      refine ⟨fun _ => ?_, fun hc => absurd (show ((0 : Int32)) = ((0 : Int32)) by decide) hc⟩
                      exact L_897 (((gI z 36).toInt - (gI z_866 38).toInt).toNat + 1)  z_866 tz_866 ocz_866 (by omega) (by omega)
            refine ⟨fun c_887 => ?_, fun c_887 => ?_⟩
            · skip
              have q_956 := (show (gI z_864 39).toInt = (0 : Int32).toInt by rw [ez_864]; rfl)
              have q_957 : (0 : Int32).toInt = (0) := (show (0 : Int32).toInt = 0 by decide)
              have i_958 := i_ne rfl (show (3 : Int32).toInt = 3 by decide) c_887
              have f_959 : 0 ≤ (gI z_864 38).toInt ∧ (gI z_864 38).toInt ≤ 300 := tz_864.1 38
              have q_960 := (((show (gI z_864 38).toInt = (gI z_495 38).toInt by rw [ez_864]; rfl)).trans (show (gI z_495 38).toInt = (gI z_494 38).toInt by rw [ez_495]; rfl)).trans (show (gI z_494 38).toInt = (gI z2 37).toInt by rw [ez_494]; rfl)
              exact L_891 (((gI z 36).toInt - (gI z_864 38).toInt).toNat + 1)  z_864 tz_864 oz_864 (by omega) (by omega)
            · skip
              have q_961 := (show (gI z_864 39).toInt = (0 : Int32).toInt by rw [ez_864]; rfl)
              have q_962 : (0 : Int32).toInt = (0) := (show (0 : Int32).toInt = 0 by decide)
              have i_963 := i_eq rfl (show (3 : Int32).toInt = 3 by decide) c_887
              have f_964 : 0 ≤ (gI z_864 37).toInt ∧ (gI z_864 37).toInt ≤ 300 := tz_864.1 37
              have q_965 := (((show (gI z_864 37).toInt = (gI z_495 37).toInt by rw [ez_864]; rfl)).trans (show (gI z_495 37).toInt = (gI z_494 37).toInt by rw [ez_495]; rfl)).trans (show (gI z_494 37).toInt = (gI z2 37).toInt by rw [ez_494]; rfl)
              refine ⟨vin rfl (by omega) (by omega), ?_⟩
              intro z_888 ez_888
              have tz_888 : TM z_888 := by rw [ez_888]; exact Ty_wJ tz_864
              have oz_888 : Same [37, 38, 39] [] z z_888 := oz_864.j ez_888
              intro z_889 ez_889
              have f_966 : 0 ≤ (gI z_888 38).toInt ∧ (gI z_888 38).toInt ≤ 300 := tz_888.1 38
              have q_967 := ((((show (gI z_888 38).toInt = (gI z_864 38).toInt by rw [ez_888]; rfl)).trans (show (gI z_864 38).toInt = (gI z_495 38).toInt by rw [ez_864]; rfl)).trans (show (gI z_495 38).toInt = (gI z_494 38).toInt by rw [ez_495]; rfl)).trans (show (gI z_494 38).toInt = (gI z2 37).toInt by rw [ez_494]; rfl)
              have tz_889 : TM z_889 := by rw [ez_889]; exact Ty_wI tz_888 (show 0 ≤ ((gI z_888 38) + (1 : Int32)).toInt ∧ ((gI z_888 38) + (1 : Int32)).toInt ≤ 300 from by rw [(a_add rfl (show (1 : Int32).toInt = 1 by decide) (by omega) (by omega))]; omega)
              have oz_889 : Same [37, 38, 39] [] z z_889 := oz_888.i (by decide) ez_889
              have f_968 : 0 ≤ (gI z_889 38).toInt ∧ (gI z_889 38).toInt ≤ 300 := tz_889.1 38
              have q_969 := (show (gI z_889 38).toInt = ((gI z_888 38) + (1 : Int32)).toInt by rw [ez_889]; rfl)
              have q_970 : ((gI z_888 38) + (1 : Int32)).toInt = ((gI z_888 38).toInt + (1)) := (a_add rfl (show (1 : Int32).toInt = 1 by decide) (by omega) (by omega))
              exact L_891 (((gI z 36).toInt - (gI z_889 38).toInt).toNat + 1)  z_889 tz_889 oz_889 (by omega) (by omega)
        · skip
          have q_971 := (ocz2.ff 25 (gI z2 37).toNatClampNeg (by decide))
          have i_972 := i_eq rfl (show (32 : Int32).toInt = 32 by decide) c44
          intro z45 ez45
          have tz45 : TM z45 := by rw [ez45]; exact Ty_wI tz2 (show 0 ≤ ((gI z2 37) + (1 : Int32)).toInt ∧ ((gI z2 37) + (1 : Int32)).toInt ≤ 300 from by rw [(a_add rfl (show (1 : Int32).toInt = 1 by decide) (by omega) (by omega))]; omega)
          have oz45 : Same [37, 38, 39] [] z z45 := ocz2.i (by decide) ez45
          have f_973 : 0 ≤ (gI z45 37).toInt ∧ (gI z45 37).toInt ≤ 300 := tz45.1 37
          have q_974 := (show (gI z45 37).toInt = ((gI z2 37) + (1 : Int32)).toInt by rw [ez45]; rfl)
          have q_975 : ((gI z2 37) + (1 : Int32)).toInt = ((gI z2 37).toInt + (1)) := (a_add rfl (show (1 : Int32).toInt = 1 by decide) (by omega) (by omega))
          exact ih_4  z45 tz45 oz45 (by omega) (by omega)
  intro z46 ez46
  have f_976 : 0 ≤ (gI z 38).toInt ∧ (gI z 38).toInt ≤ 300 := ht.1 38
  have tz46 : TM z46 := by rw [ez46]; exact Ty_wI ht (show 0 ≤ (gI z 38).toInt ∧ (gI z 38).toInt ≤ 300 from by omega)
  have oz46 : Same [37, 38, 39] [] z z46 := (Same.rf (z := z)).i (by decide) ez46
  have f_977 : 0 ≤ (gI z46 37).toInt ∧ (gI z46 37).toInt ≤ 300 := tz46.1 37
  have q_978 := (show (gI z46 37).toInt = (gI z 38).toInt by rw [ez46]; rfl)
  have f_979 : 0 ≤ (gI z 36).toInt ∧ (gI z 36).toInt ≤ 300 := ht.1 36
  exact L_2 (((gI z 36).toInt - (gI z46 37).toInt).toNat + 1)  z46 tz46 oz46 (by omega) (by omega)

set_option maxHeartbeats 2000000 in
theorem s_X9_must (b1 : Int32) (z : St) (P : St → Prop) (ht : TM z) (h0 : (gI z 38).toInt ≤ (gI z 36).toInt) (hk : ∀ (z2 : St), TM z2 → Same [37, 38, 39, 41, 42] [] z z2 → ((gI z2 38).toInt ≤ (gI z 36).toInt ∧ (b1.toInt = 0 → (gI z2 42).toInt = 1) ∧ ((gI z 42).toInt = 1 → (gI z2 42).toInt = 1)) → P z2) : wp_X9_must b1 z P := by
  unfold wp_X9_must
  intro K1 hK_1
  refine ⟨fun c6 => ?_, fun c6 => ?_⟩
  · skip
    have f_2 : 0 ≤ (gI z 42).toInt ∧ (gI z 42).toInt ≤ 1 := ht.1 42
    have i_3 := i_ne rfl (show (0 : Int32).toInt = 0 by decide) c6
    refine hK_1 z ?_
    refine ⟨fun c_4 => ?_, fun c_4 => ?_⟩
    · skip
      have i_6 := i_ne rfl (show (0 : Int32).toInt = 0 by decide) c_4
      have f_7 : 0 ≤ (gI z 38).toInt ∧ (gI z 38).toInt ≤ 300 := ht.1 38
      have f_8 : 0 ≤ (gI z 36).toInt ∧ (gI z 36).toInt ≤ 300 := ht.1 36
      exact hk z ht (Same.rf (z := z)) (by omega)
    · skip
      have i_9 := i_eq rfl (show (0 : Int32).toInt = 0 by decide) c_4
      have f_10 : 0 ≤ (gI z 38).toInt ∧ (gI z 38).toInt ≤ 300 := ht.1 38
      have f_11 : 0 ≤ (gI z 36).toInt ∧ (gI z 36).toInt ≤ 300 := ht.1 36
      refine s_X9_next  z _ ht (by omega) (fun z_5 tz_5 o_13 hp_12 => ?_)
      have oz_5 : Same [37, 38, 39, 41, 42] [] z z_5 := (Same.rf (z := z)).tr o_13 (by decide) (by decide)
      have f_14 : 0 ≤ (gI z_5 38).toInt ∧ (gI z_5 38).toInt ≤ 300 := tz_5.1 38
      have f_15 : 0 ≤ (gI z_5 42).toInt ∧ (gI z_5 42).toInt ≤ 1 := tz_5.1 42
      have q_16 := (o_13.fi 42 (by decide))
      exact hk z_5 tz_5 oz_5 (by omega)
  · skip
    have f_17 : 0 ≤ (gI z 42).toInt ∧ (gI z 42).toInt ≤ 1 := ht.1 42
    have i_18 := i_eq rfl (show (0 : Int32).toInt = 0 by decide) c6
    refine ⟨fun c7 => ?_, fun c7 => ?_⟩
    · skip
      have i_19 := i_ne rfl (show (0 : Int32).toInt = 0 by decide) c7
      refine hK_1 z ?_
      refine ⟨fun c_20 => ?_, fun c_20 => ?_⟩
      · skip
        have i_22 := i_ne rfl (show (0 : Int32).toInt = 0 by decide) c_20
        have f_23 : 0 ≤ (gI z 38).toInt ∧ (gI z 38).toInt ≤ 300 := ht.1 38
        have f_24 : 0 ≤ (gI z 36).toInt ∧ (gI z 36).toInt ≤ 300 := ht.1 36
        exact hk z ht (Same.rf (z := z)) (by omega)
      · skip
        have i_25 := i_eq rfl (show (0 : Int32).toInt = 0 by decide) c_20
        have f_26 : 0 ≤ (gI z 38).toInt ∧ (gI z 38).toInt ≤ 300 := ht.1 38
        have f_27 : 0 ≤ (gI z 36).toInt ∧ (gI z 36).toInt ≤ 300 := ht.1 36
        refine s_X9_next  z _ ht (by omega) (fun z_21 tz_21 o_29 hp_28 => ?_)
        have oz_21 : Same [37, 38, 39, 41, 42] [] z z_21 := (Same.rf (z := z)).tr o_29 (by decide) (by decide)
        have f_30 : 0 ≤ (gI z_21 38).toInt ∧ (gI z_21 38).toInt ≤ 300 := tz_21.1 38
        have f_31 : 0 ≤ (gI z_21 42).toInt ∧ (gI z_21 42).toInt ≤ 1 := tz_21.1 42
        have q_32 := (o_29.fi 42 (by decide))
        exact hk z_21 tz_21 oz_21 (by omega)
    · skip
      have i_33 := i_eq rfl (show (0 : Int32).toInt = 0 by decide) c7
      intro z8 ez8
      have tz8 : TM z8 := by rw [ez8]; exact Ty_wI ht (show 0 ≤ (1 : Int32).toInt ∧ (1 : Int32).toInt ≤ 1 from by rw [(show (1 : Int32).toInt = 1 by decide)]; omega)
      have oz8 : Same [37, 38, 39, 41, 42] [] z z8 := (Same.rf (z := z)).i (by decide) ez8
      intro z9 ez9
      have tz9 : TM z9 := by rw [ez9]; exact Ty_wI tz8 trivial
      have oz9 : Same [37, 38, 39, 41, 42] [] z z9 := oz8.i (by decide) ez9
      refine hK_1 z9 ?_
      refine ⟨fun c_34 => ?_, fun c_34 => ?_⟩
      · skip
        have f_36 : 0 ≤ (gI z9 42).toInt ∧ (gI z9 42).toInt ≤ 1 := tz9.1 42
        have q_37 := ((show (gI z9 42).toInt = (gI z8 42).toInt by rw [ez9]; rfl)).trans (show (gI z8 42).toInt = (1 : Int32).toInt by rw [ez8]; rfl)
        have q_38 : (1 : Int32).toInt = (1) := (show (1 : Int32).toInt = 1 by decide)
        have i_39 := i_ne rfl (show (0 : Int32).toInt = 0 by decide) c_34
        have f_40 : 0 ≤ (gI z9 38).toInt ∧ (gI z9 38).toInt ≤ 300 := tz9.1 38
        have q_41 := ((show (gI z9 38).toInt = (gI z8 38).toInt by rw [ez9]; rfl)).trans (show (gI z8 38).toInt = (gI z 38).toInt by rw [ez8]; rfl)
        have f_42 : 0 ≤ (gI z 38).toInt ∧ (gI z 38).toInt ≤ 300 := ht.1 38
        have f_43 : 0 ≤ (gI z 36).toInt ∧ (gI z 36).toInt ≤ 300 := ht.1 36
        exact hk z9 tz9 oz9 (by omega)
      · skip
        have f_44 : 0 ≤ (gI z9 42).toInt ∧ (gI z9 42).toInt ≤ 1 := tz9.1 42
        have q_45 := ((show (gI z9 42).toInt = (gI z8 42).toInt by rw [ez9]; rfl)).trans (show (gI z8 42).toInt = (1 : Int32).toInt by rw [ez8]; rfl)
        have q_46 : (1 : Int32).toInt = (1) := (show (1 : Int32).toInt = 1 by decide)
        have i_47 := i_eq rfl (show (0 : Int32).toInt = 0 by decide) c_34
        have f_48 : 0 ≤ (gI z9 38).toInt ∧ (gI z9 38).toInt ≤ 300 := tz9.1 38
        have q_49 := ((show (gI z9 38).toInt = (gI z8 38).toInt by rw [ez9]; rfl)).trans (show (gI z8 38).toInt = (gI z 38).toInt by rw [ez8]; rfl)
        have f_50 : 0 ≤ (gI z 38).toInt ∧ (gI z 38).toInt ≤ 300 := ht.1 38
        have f_51 : 0 ≤ (gI z9 36).toInt ∧ (gI z9 36).toInt ≤ 300 := tz9.1 36
        have q_52 := ((show (gI z9 36).toInt = (gI z8 36).toInt by rw [ez9]; rfl)).trans (show (gI z8 36).toInt = (gI z 36).toInt by rw [ez8]; rfl)
        have f_53 : 0 ≤ (gI z 36).toInt ∧ (gI z 36).toInt ≤ 300 := ht.1 36
        refine s_X9_next  z9 _ tz9 (by omega) (fun z_35 tz_35 o_55 hp_54 => ?_)
        have oz_35 : Same [37, 38, 39, 41, 42] [] z z_35 := oz9.tr o_55 (by decide) (by decide)
        have f_56 : 0 ≤ (gI z_35 38).toInt ∧ (gI z_35 38).toInt ≤ 300 := tz_35.1 38
        have f_57 : 0 ≤ (gI z_35 42).toInt ∧ (gI z_35 42).toInt ≤ 1 := tz_35.1 42
        have q_58 := (((o_55.fi 42 (by decide))).trans (show (gI z9 42).toInt = (gI z8 42).toInt by rw [ez9]; rfl)).trans (show (gI z8 42).toInt = (1 : Int32).toInt by rw [ez8]; rfl)
        have q_59 : (1 : Int32).toInt = (1) := (show (1 : Int32).toInt = 1 by decide)
        exact hk z_35 tz_35 oz_35 (by omega)

set_option maxHeartbeats 2000000 in
theorem s_X9_isWord (b1 : Int32) (b2 : Int32) (b3 : Int32) (b4 : Int32) (b5 : Int32) (b6 : Int32) (z : St) (P : Int32 → Prop) (ht : TM z)  (hk : ∀ r : Int32, (r = 1 ∧ (True)) ∨ (r = 0 ∧ (True)) → P r) : wp_X9_isWord b1 b2 b3 b4 b5 b6 z P := by
  unfold wp_X9_isWord
  intro x1 ex1
  intro K3 hK_1
  refine ⟨fun c15 => ?_, fun c15 => ?_⟩
  · skip
    have i_2 := i_ne rfl (show (0 : Int32).toInt = 0 by decide) c15
    refine hK_1 ((((x1 * (32 : Int64)) + (Int32.toInt64 b3)) - (96 : Int64))) ?_
    intro K_3 hK_14
    refine ⟨fun c_13 => ?_, fun c_13 => ?_⟩
    · skip
      have i_15 := i_ne rfl (show (0 : Int32).toInt = 0 by decide) c_13
      refine hK_14 (((((((x1 * (32 : Int64)) + (Int32.toInt64 b3)) - (96 : Int64)) * (32 : Int64)) + (Int32.toInt64 b4)) - (96 : Int64))) ?_
      intro K_16 hK_24
      refine ⟨fun c_23 => ?_, fun c_23 => ?_⟩
      · skip
        have i_25 := i_ne rfl (show (0 : Int32).toInt = 0 by decide) c_23
        refine hK_24 ((((((((((x1 * (32 : Int64)) + (Int32.toInt64 b3)) - (96 : Int64)) * (32 : Int64)) + (Int32.toInt64 b4)) - (96 : Int64)) * (32 : Int64)) + (Int32.toInt64 b5)) - (96 : Int64))) ?_
        intro K_26 hK_31
        refine ⟨fun c_30 => ?_, fun c_30 => ?_⟩
        · skip
          have i_32 := i_ne rfl (show (0 : Int32).toInt = 0 by decide) c_30
          refine hK_31 (((((((((((((x1 * (32 : Int64)) + (Int32.toInt64 b3)) - (96 : Int64)) * (32 : Int64)) + (Int32.toInt64 b4)) - (96 : Int64)) * (32 : Int64)) + (Int32.toInt64 b5)) - (96 : Int64)) * (32 : Int64)) + (Int32.toInt64 b6)) - (96 : Int64))) ?_
          refine ⟨fun c_33 => ?_, fun c_33 => ?_⟩
          · skip
            have i_35 := i_ne rfl (show (1 : Int32).toInt = 1 by decide) c_33
            have g_36 : (0 : Int32).toInt = 0 := by decide
            exact hk ((0 : Int32)) (Or.inr ⟨rfl, trivial⟩)
          · skip
            have i_37 := i_eq rfl (show (1 : Int32).toInt = 1 by decide) c_33
            refine ⟨fun c_34 => ?_, fun c_34 => ?_⟩
            · skip
              have g_38 : (0 : Int32).toInt = 0 := by decide
              exact hk ((0 : Int32)) (Or.inr ⟨rfl, trivial⟩)
            · skip
              have g_39 : (1 : Int32).toInt = 1 := by decide
              exact hk ((1 : Int32)) (Or.inl ⟨rfl, trivial⟩)
        · skip
          have i_40 := i_eq rfl (show (0 : Int32).toInt = 0 by decide) c_30
          refine hK_31 ((((((((((x1 * (32 : Int64)) + (Int32.toInt64 b3)) - (96 : Int64)) * (32 : Int64)) + (Int32.toInt64 b4)) - (96 : Int64)) * (32 : Int64)) + (Int32.toInt64 b5)) - (96 : Int64))) ?_
          refine ⟨fun c_41 => ?_, fun c_41 => ?_⟩
          · skip
            have i_43 := i_ne rfl (show (1 : Int32).toInt = 1 by decide) c_41
            have g_44 : (0 : Int32).toInt = 0 := by decide
            exact hk ((0 : Int32)) (Or.inr ⟨rfl, trivial⟩)
          · skip
            have i_45 := i_eq rfl (show (1 : Int32).toInt = 1 by decide) c_41
            refine ⟨fun c_42 => ?_, fun c_42 => ?_⟩
            · skip
              have g_46 : (0 : Int32).toInt = 0 := by decide
              exact hk ((0 : Int32)) (Or.inr ⟨rfl, trivial⟩)
            · skip
              have g_47 : (1 : Int32).toInt = 1 := by decide
              exact hk ((1 : Int32)) (Or.inl ⟨rfl, trivial⟩)
      · skip
        have i_48 := i_eq rfl (show (0 : Int32).toInt = 0 by decide) c_23
        refine hK_24 (((((((x1 * (32 : Int64)) + (Int32.toInt64 b3)) - (96 : Int64)) * (32 : Int64)) + (Int32.toInt64 b4)) - (96 : Int64))) ?_
        intro K_49 hK_54
        refine ⟨fun c_53 => ?_, fun c_53 => ?_⟩
        · skip
          have i_55 := i_ne rfl (show (0 : Int32).toInt = 0 by decide) c_53
          refine hK_54 ((((((((((x1 * (32 : Int64)) + (Int32.toInt64 b3)) - (96 : Int64)) * (32 : Int64)) + (Int32.toInt64 b4)) - (96 : Int64)) * (32 : Int64)) + (Int32.toInt64 b6)) - (96 : Int64))) ?_
          refine ⟨fun c_56 => ?_, fun c_56 => ?_⟩
          · skip
            have i_58 := i_ne rfl (show (1 : Int32).toInt = 1 by decide) c_56
            have g_59 : (0 : Int32).toInt = 0 := by decide
            exact hk ((0 : Int32)) (Or.inr ⟨rfl, trivial⟩)
          · skip
            have i_60 := i_eq rfl (show (1 : Int32).toInt = 1 by decide) c_56
            refine ⟨fun c_57 => ?_, fun c_57 => ?_⟩
            · skip
              have g_61 : (0 : Int32).toInt = 0 := by decide
              exact hk ((0 : Int32)) (Or.inr ⟨rfl, trivial⟩)
            · skip
              have g_62 : (1 : Int32).toInt = 1 := by decide
              exact hk ((1 : Int32)) (Or.inl ⟨rfl, trivial⟩)
        · skip
          have i_63 := i_eq rfl (show (0 : Int32).toInt = 0 by decide) c_53
          refine hK_54 (((((((x1 * (32 : Int64)) + (Int32.toInt64 b3)) - (96 : Int64)) * (32 : Int64)) + (Int32.toInt64 b4)) - (96 : Int64))) ?_
          refine ⟨fun c_64 => ?_, fun c_64 => ?_⟩
          · skip
            have i_66 := i_ne rfl (show (1 : Int32).toInt = 1 by decide) c_64
            have g_67 : (0 : Int32).toInt = 0 := by decide
            exact hk ((0 : Int32)) (Or.inr ⟨rfl, trivial⟩)
          · skip
            have i_68 := i_eq rfl (show (1 : Int32).toInt = 1 by decide) c_64
            refine ⟨fun c_65 => ?_, fun c_65 => ?_⟩
            · skip
              have g_69 : (0 : Int32).toInt = 0 := by decide
              exact hk ((0 : Int32)) (Or.inr ⟨rfl, trivial⟩)
            · skip
              have g_70 : (1 : Int32).toInt = 1 := by decide
              exact hk ((1 : Int32)) (Or.inl ⟨rfl, trivial⟩)
    · skip
      have i_71 := i_eq rfl (show (0 : Int32).toInt = 0 by decide) c_13
      refine hK_14 ((((x1 * (32 : Int64)) + (Int32.toInt64 b3)) - (96 : Int64))) ?_
      intro K_72 hK_80
      refine ⟨fun c_79 => ?_, fun c_79 => ?_⟩
      · skip
        have i_81 := i_ne rfl (show (0 : Int32).toInt = 0 by decide) c_79
        refine hK_80 (((((((x1 * (32 : Int64)) + (Int32.toInt64 b3)) - (96 : Int64)) * (32 : Int64)) + (Int32.toInt64 b5)) - (96 : Int64))) ?_
        intro K_82 hK_87
        refine ⟨fun c_86 => ?_, fun c_86 => ?_⟩
        · skip
          have i_88 := i_ne rfl (show (0 : Int32).toInt = 0 by decide) c_86
          refine hK_87 ((((((((((x1 * (32 : Int64)) + (Int32.toInt64 b3)) - (96 : Int64)) * (32 : Int64)) + (Int32.toInt64 b5)) - (96 : Int64)) * (32 : Int64)) + (Int32.toInt64 b6)) - (96 : Int64))) ?_
          refine ⟨fun c_89 => ?_, fun c_89 => ?_⟩
          · skip
            have i_91 := i_ne rfl (show (1 : Int32).toInt = 1 by decide) c_89
            have g_92 : (0 : Int32).toInt = 0 := by decide
            exact hk ((0 : Int32)) (Or.inr ⟨rfl, trivial⟩)
          · skip
            have i_93 := i_eq rfl (show (1 : Int32).toInt = 1 by decide) c_89
            refine ⟨fun c_90 => ?_, fun c_90 => ?_⟩
            · skip
              have g_94 : (0 : Int32).toInt = 0 := by decide
              exact hk ((0 : Int32)) (Or.inr ⟨rfl, trivial⟩)
            · skip
              have g_95 : (1 : Int32).toInt = 1 := by decide
              exact hk ((1 : Int32)) (Or.inl ⟨rfl, trivial⟩)
        · skip
          have i_96 := i_eq rfl (show (0 : Int32).toInt = 0 by decide) c_86
          refine hK_87 (((((((x1 * (32 : Int64)) + (Int32.toInt64 b3)) - (96 : Int64)) * (32 : Int64)) + (Int32.toInt64 b5)) - (96 : Int64))) ?_
          refine ⟨fun c_97 => ?_, fun c_97 => ?_⟩
          · skip
            have i_99 := i_ne rfl (show (1 : Int32).toInt = 1 by decide) c_97
            have g_100 : (0 : Int32).toInt = 0 := by decide
            exact hk ((0 : Int32)) (Or.inr ⟨rfl, trivial⟩)
          · skip
            have i_101 := i_eq rfl (show (1 : Int32).toInt = 1 by decide) c_97
            refine ⟨fun c_98 => ?_, fun c_98 => ?_⟩
            · skip
              have g_102 : (0 : Int32).toInt = 0 := by decide
              exact hk ((0 : Int32)) (Or.inr ⟨rfl, trivial⟩)
            · skip
              have g_103 : (1 : Int32).toInt = 1 := by decide
              exact hk ((1 : Int32)) (Or.inl ⟨rfl, trivial⟩)
      · skip
        have i_104 := i_eq rfl (show (0 : Int32).toInt = 0 by decide) c_79
        refine hK_80 ((((x1 * (32 : Int64)) + (Int32.toInt64 b3)) - (96 : Int64))) ?_
        intro K_105 hK_110
        refine ⟨fun c_109 => ?_, fun c_109 => ?_⟩
        · skip
          have i_111 := i_ne rfl (show (0 : Int32).toInt = 0 by decide) c_109
          refine hK_110 (((((((x1 * (32 : Int64)) + (Int32.toInt64 b3)) - (96 : Int64)) * (32 : Int64)) + (Int32.toInt64 b6)) - (96 : Int64))) ?_
          refine ⟨fun c_112 => ?_, fun c_112 => ?_⟩
          · skip
            have i_114 := i_ne rfl (show (1 : Int32).toInt = 1 by decide) c_112
            have g_115 : (0 : Int32).toInt = 0 := by decide
            exact hk ((0 : Int32)) (Or.inr ⟨rfl, trivial⟩)
          · skip
            have i_116 := i_eq rfl (show (1 : Int32).toInt = 1 by decide) c_112
            refine ⟨fun c_113 => ?_, fun c_113 => ?_⟩
            · skip
              have g_117 : (0 : Int32).toInt = 0 := by decide
              exact hk ((0 : Int32)) (Or.inr ⟨rfl, trivial⟩)
            · skip
              have g_118 : (1 : Int32).toInt = 1 := by decide
              exact hk ((1 : Int32)) (Or.inl ⟨rfl, trivial⟩)
        · skip
          have i_119 := i_eq rfl (show (0 : Int32).toInt = 0 by decide) c_109
          refine hK_110 ((((x1 * (32 : Int64)) + (Int32.toInt64 b3)) - (96 : Int64))) ?_
          refine ⟨fun c_120 => ?_, fun c_120 => ?_⟩
          · skip
            have i_122 := i_ne rfl (show (1 : Int32).toInt = 1 by decide) c_120
            have g_123 : (0 : Int32).toInt = 0 := by decide
            exact hk ((0 : Int32)) (Or.inr ⟨rfl, trivial⟩)
          · skip
            have i_124 := i_eq rfl (show (1 : Int32).toInt = 1 by decide) c_120
            refine ⟨fun c_121 => ?_, fun c_121 => ?_⟩
            · skip
              have g_125 : (0 : Int32).toInt = 0 := by decide
              exact hk ((0 : Int32)) (Or.inr ⟨rfl, trivial⟩)
            · skip
              have g_126 : (1 : Int32).toInt = 1 := by decide
              exact hk ((1 : Int32)) (Or.inl ⟨rfl, trivial⟩)
  · skip
    have i_127 := i_eq rfl (show (0 : Int32).toInt = 0 by decide) c15
    refine hK_1 x1 ?_
    intro K_128 hK_139
    refine ⟨fun c_138 => ?_, fun c_138 => ?_⟩
    · skip
      have i_140 := i_ne rfl (show (0 : Int32).toInt = 0 by decide) c_138
      refine hK_139 ((((x1 * (32 : Int64)) + (Int32.toInt64 b4)) - (96 : Int64))) ?_
      intro K_141 hK_149
      refine ⟨fun c_148 => ?_, fun c_148 => ?_⟩
      · skip
        have i_150 := i_ne rfl (show (0 : Int32).toInt = 0 by decide) c_148
        refine hK_149 (((((((x1 * (32 : Int64)) + (Int32.toInt64 b4)) - (96 : Int64)) * (32 : Int64)) + (Int32.toInt64 b5)) - (96 : Int64))) ?_
        intro K_151 hK_156
        refine ⟨fun c_155 => ?_, fun c_155 => ?_⟩
        · skip
          have i_157 := i_ne rfl (show (0 : Int32).toInt = 0 by decide) c_155
          refine hK_156 ((((((((((x1 * (32 : Int64)) + (Int32.toInt64 b4)) - (96 : Int64)) * (32 : Int64)) + (Int32.toInt64 b5)) - (96 : Int64)) * (32 : Int64)) + (Int32.toInt64 b6)) - (96 : Int64))) ?_
          refine ⟨fun c_158 => ?_, fun c_158 => ?_⟩
          · skip
            have i_160 := i_ne rfl (show (1 : Int32).toInt = 1 by decide) c_158
            have g_161 : (0 : Int32).toInt = 0 := by decide
            exact hk ((0 : Int32)) (Or.inr ⟨rfl, trivial⟩)
          · skip
            have i_162 := i_eq rfl (show (1 : Int32).toInt = 1 by decide) c_158
            refine ⟨fun c_159 => ?_, fun c_159 => ?_⟩
            · skip
              have g_163 : (0 : Int32).toInt = 0 := by decide
              exact hk ((0 : Int32)) (Or.inr ⟨rfl, trivial⟩)
            · skip
              have g_164 : (1 : Int32).toInt = 1 := by decide
              exact hk ((1 : Int32)) (Or.inl ⟨rfl, trivial⟩)
        · skip
          have i_165 := i_eq rfl (show (0 : Int32).toInt = 0 by decide) c_155
          refine hK_156 (((((((x1 * (32 : Int64)) + (Int32.toInt64 b4)) - (96 : Int64)) * (32 : Int64)) + (Int32.toInt64 b5)) - (96 : Int64))) ?_
          refine ⟨fun c_166 => ?_, fun c_166 => ?_⟩
          · skip
            have i_168 := i_ne rfl (show (1 : Int32).toInt = 1 by decide) c_166
            have g_169 : (0 : Int32).toInt = 0 := by decide
            exact hk ((0 : Int32)) (Or.inr ⟨rfl, trivial⟩)
          · skip
            have i_170 := i_eq rfl (show (1 : Int32).toInt = 1 by decide) c_166
            refine ⟨fun c_167 => ?_, fun c_167 => ?_⟩
            · skip
              have g_171 : (0 : Int32).toInt = 0 := by decide
              exact hk ((0 : Int32)) (Or.inr ⟨rfl, trivial⟩)
            · skip
              have g_172 : (1 : Int32).toInt = 1 := by decide
              exact hk ((1 : Int32)) (Or.inl ⟨rfl, trivial⟩)
      · skip
        have i_173 := i_eq rfl (show (0 : Int32).toInt = 0 by decide) c_148
        refine hK_149 ((((x1 * (32 : Int64)) + (Int32.toInt64 b4)) - (96 : Int64))) ?_
        intro K_174 hK_179
        refine ⟨fun c_178 => ?_, fun c_178 => ?_⟩
        · skip
          have i_180 := i_ne rfl (show (0 : Int32).toInt = 0 by decide) c_178
          refine hK_179 (((((((x1 * (32 : Int64)) + (Int32.toInt64 b4)) - (96 : Int64)) * (32 : Int64)) + (Int32.toInt64 b6)) - (96 : Int64))) ?_
          refine ⟨fun c_181 => ?_, fun c_181 => ?_⟩
          · skip
            have i_183 := i_ne rfl (show (1 : Int32).toInt = 1 by decide) c_181
            have g_184 : (0 : Int32).toInt = 0 := by decide
            exact hk ((0 : Int32)) (Or.inr ⟨rfl, trivial⟩)
          · skip
            have i_185 := i_eq rfl (show (1 : Int32).toInt = 1 by decide) c_181
            refine ⟨fun c_182 => ?_, fun c_182 => ?_⟩
            · skip
              have g_186 : (0 : Int32).toInt = 0 := by decide
              exact hk ((0 : Int32)) (Or.inr ⟨rfl, trivial⟩)
            · skip
              have g_187 : (1 : Int32).toInt = 1 := by decide
              exact hk ((1 : Int32)) (Or.inl ⟨rfl, trivial⟩)
        · skip
          have i_188 := i_eq rfl (show (0 : Int32).toInt = 0 by decide) c_178
          refine hK_179 ((((x1 * (32 : Int64)) + (Int32.toInt64 b4)) - (96 : Int64))) ?_
          refine ⟨fun c_189 => ?_, fun c_189 => ?_⟩
          · skip
            have i_191 := i_ne rfl (show (1 : Int32).toInt = 1 by decide) c_189
            have g_192 : (0 : Int32).toInt = 0 := by decide
            exact hk ((0 : Int32)) (Or.inr ⟨rfl, trivial⟩)
          · skip
            have i_193 := i_eq rfl (show (1 : Int32).toInt = 1 by decide) c_189
            refine ⟨fun c_190 => ?_, fun c_190 => ?_⟩
            · skip
              have g_194 : (0 : Int32).toInt = 0 := by decide
              exact hk ((0 : Int32)) (Or.inr ⟨rfl, trivial⟩)
            · skip
              have g_195 : (1 : Int32).toInt = 1 := by decide
              exact hk ((1 : Int32)) (Or.inl ⟨rfl, trivial⟩)
    · skip
      have i_196 := i_eq rfl (show (0 : Int32).toInt = 0 by decide) c_138
      refine hK_139 x1 ?_
      intro K_197 hK_205
      refine ⟨fun c_204 => ?_, fun c_204 => ?_⟩
      · skip
        have i_206 := i_ne rfl (show (0 : Int32).toInt = 0 by decide) c_204
        refine hK_205 ((((x1 * (32 : Int64)) + (Int32.toInt64 b5)) - (96 : Int64))) ?_
        intro K_207 hK_212
        refine ⟨fun c_211 => ?_, fun c_211 => ?_⟩
        · skip
          have i_213 := i_ne rfl (show (0 : Int32).toInt = 0 by decide) c_211
          refine hK_212 (((((((x1 * (32 : Int64)) + (Int32.toInt64 b5)) - (96 : Int64)) * (32 : Int64)) + (Int32.toInt64 b6)) - (96 : Int64))) ?_
          refine ⟨fun c_214 => ?_, fun c_214 => ?_⟩
          · skip
            have i_216 := i_ne rfl (show (1 : Int32).toInt = 1 by decide) c_214
            have g_217 : (0 : Int32).toInt = 0 := by decide
            exact hk ((0 : Int32)) (Or.inr ⟨rfl, trivial⟩)
          · skip
            have i_218 := i_eq rfl (show (1 : Int32).toInt = 1 by decide) c_214
            refine ⟨fun c_215 => ?_, fun c_215 => ?_⟩
            · skip
              have g_219 : (0 : Int32).toInt = 0 := by decide
              exact hk ((0 : Int32)) (Or.inr ⟨rfl, trivial⟩)
            · skip
              have g_220 : (1 : Int32).toInt = 1 := by decide
              exact hk ((1 : Int32)) (Or.inl ⟨rfl, trivial⟩)
        · skip
          have i_221 := i_eq rfl (show (0 : Int32).toInt = 0 by decide) c_211
          refine hK_212 ((((x1 * (32 : Int64)) + (Int32.toInt64 b5)) - (96 : Int64))) ?_
          refine ⟨fun c_222 => ?_, fun c_222 => ?_⟩
          · skip
            have i_224 := i_ne rfl (show (1 : Int32).toInt = 1 by decide) c_222
            have g_225 : (0 : Int32).toInt = 0 := by decide
            exact hk ((0 : Int32)) (Or.inr ⟨rfl, trivial⟩)
          · skip
            have i_226 := i_eq rfl (show (1 : Int32).toInt = 1 by decide) c_222
            refine ⟨fun c_223 => ?_, fun c_223 => ?_⟩
            · skip
              have g_227 : (0 : Int32).toInt = 0 := by decide
              exact hk ((0 : Int32)) (Or.inr ⟨rfl, trivial⟩)
            · skip
              have g_228 : (1 : Int32).toInt = 1 := by decide
              exact hk ((1 : Int32)) (Or.inl ⟨rfl, trivial⟩)
      · skip
        have i_229 := i_eq rfl (show (0 : Int32).toInt = 0 by decide) c_204
        refine hK_205 x1 ?_
        intro K_230 hK_235
        refine ⟨fun c_234 => ?_, fun c_234 => ?_⟩
        · skip
          have i_236 := i_ne rfl (show (0 : Int32).toInt = 0 by decide) c_234
          refine hK_235 ((((x1 * (32 : Int64)) + (Int32.toInt64 b6)) - (96 : Int64))) ?_
          refine ⟨fun c_237 => ?_, fun c_237 => ?_⟩
          · skip
            have i_239 := i_ne rfl (show (1 : Int32).toInt = 1 by decide) c_237
            have g_240 : (0 : Int32).toInt = 0 := by decide
            exact hk ((0 : Int32)) (Or.inr ⟨rfl, trivial⟩)
          · skip
            have i_241 := i_eq rfl (show (1 : Int32).toInt = 1 by decide) c_237
            refine ⟨fun c_238 => ?_, fun c_238 => ?_⟩
            · skip
              have g_242 : (0 : Int32).toInt = 0 := by decide
              exact hk ((0 : Int32)) (Or.inr ⟨rfl, trivial⟩)
            · skip
              have g_243 : (1 : Int32).toInt = 1 := by decide
              exact hk ((1 : Int32)) (Or.inl ⟨rfl, trivial⟩)
        · skip
          have i_244 := i_eq rfl (show (0 : Int32).toInt = 0 by decide) c_234
          refine hK_235 x1 ?_
          refine ⟨fun c_245 => ?_, fun c_245 => ?_⟩
          · skip
            have i_247 := i_ne rfl (show (1 : Int32).toInt = 1 by decide) c_245
            have g_248 : (0 : Int32).toInt = 0 := by decide
            exact hk ((0 : Int32)) (Or.inr ⟨rfl, trivial⟩)
          · skip
            have i_249 := i_eq rfl (show (1 : Int32).toInt = 1 by decide) c_245
            refine ⟨fun c_246 => ?_, fun c_246 => ?_⟩
            · skip
              have g_250 : (0 : Int32).toInt = 0 := by decide
              exact hk ((0 : Int32)) (Or.inr ⟨rfl, trivial⟩)
            · skip
              have g_251 : (1 : Int32).toInt = 1 := by decide
              exact hk ((1 : Int32)) (Or.inl ⟨rfl, trivial⟩)

set_option maxHeartbeats 2000000 in
theorem s_X9_number (b1 : Int64) (z : St) (P : Int32 → St → Prop) (ht : TM z) (h0 : (gI z 38).toInt ≤ (gI z 36).toInt) (hk : ∀ (r : Int32) (z2 : St), TM z2 → Same [37, 38, 39, 41, 42] [] z z2 → ((gI z2 38).toInt ≤ (gI z 36).toInt ∧ ((gI z 42).toInt = 1 → (gI z2 42).toInt = 1)) → P r z2) : wp_X9_number b1 z P := by
  unfold wp_X9_number
  intro x1 ex1
  have ix1 : x1.toInt = (Int64.toInt32 (gJ z 40)).toInt := by rw [ex1]
  intro K3 hK_1
  intro K6 hK_2
  refine ⟨fun c7 => ?_, fun c7 => ?_⟩
  · skip
    have i_3 := i_ne rfl (show (2 : Int32).toInt = 2 by decide) c7
    refine hK_2  ?_
    refine hK_1 ((0 : Int32)) ?_
    have g_5 : (0 : Int32).toInt = 0 := by decide
    have f_6 : 0 ≤ (gI z 38).toInt ∧ (gI z 38).toInt ≤ 300 := ht.1 38
    have f_7 : 0 ≤ (gI z 36).toInt ∧ (gI z 36).toInt ≤ 300 := ht.1 36
    refine s_X9_must ((0 : Int32)) z _ ht (by omega) (fun z_4 tz_4 o_9 hp_8 => ?_)
    have oz_4 : Same [37, 38, 39, 41, 42] [] z z_4 := (Same.rf (z := z)).tr o_9 (by decide) (by decide)
    have f_10 : 0 ≤ (gI z_4 38).toInt ∧ (gI z_4 38).toInt ≤ 300 := tz_4.1 38
    have f_11 : 0 ≤ (gI z_4 42).toInt ∧ (gI z_4 42).toInt ≤ 1 := tz_4.1 42
    have f_12 : 0 ≤ (gI z 42).toInt ∧ (gI z 42).toInt ≤ 1 := ht.1 42
    exact hk x1 z_4 tz_4 oz_4 (by omega)
  · skip
    have i_13 := i_eq rfl (show (2 : Int32).toInt = 2 by decide) c7
    refine ⟨fun c8 => ?_, fun c8 => ?_⟩
    · skip
      refine hK_2  ?_
      refine hK_1 ((0 : Int32)) ?_
      have g_15 : (0 : Int32).toInt = 0 := by decide
      have f_16 : 0 ≤ (gI z 38).toInt ∧ (gI z 38).toInt ≤ 300 := ht.1 38
      have f_17 : 0 ≤ (gI z 36).toInt ∧ (gI z 36).toInt ≤ 300 := ht.1 36
      refine s_X9_must ((0 : Int32)) z _ ht (by omega) (fun z_14 tz_14 o_19 hp_18 => ?_)
      have oz_14 : Same [37, 38, 39, 41, 42] [] z z_14 := (Same.rf (z := z)).tr o_19 (by decide) (by decide)
      have f_20 : 0 ≤ (gI z_14 38).toInt ∧ (gI z_14 38).toInt ≤ 300 := tz_14.1 38
      have f_21 : 0 ≤ (gI z_14 42).toInt ∧ (gI z_14 42).toInt ≤ 1 := tz_14.1 42
      have f_22 : 0 ≤ (gI z 42).toInt ∧ (gI z 42).toInt ≤ 1 := ht.1 42
      exact hk x1 z_14 tz_14 oz_14 (by omega)
    · skip
      refine hK_1 ((1 : Int32)) ?_
      have g_24 : (1 : Int32).toInt = 1 := by decide
      have f_25 : 0 ≤ (gI z 38).toInt ∧ (gI z 38).toInt ≤ 300 := ht.1 38
      have f_26 : 0 ≤ (gI z 36).toInt ∧ (gI z 36).toInt ≤ 300 := ht.1 36
      refine s_X9_must ((1 : Int32)) z _ ht (by omega) (fun z_23 tz_23 o_28 hp_27 => ?_)
      have oz_23 : Same [37, 38, 39, 41, 42] [] z z_23 := (Same.rf (z := z)).tr o_28 (by decide) (by decide)
      have f_29 : 0 ≤ (gI z_23 38).toInt ∧ (gI z_23 38).toInt ≤ 300 := tz_23.1 38
      have f_30 : 0 ≤ (gI z_23 42).toInt ∧ (gI z_23 42).toInt ≤ 1 := tz_23.1 42
      have f_31 : 0 ≤ (gI z 42).toInt ∧ (gI z 42).toInt ≤ 1 := ht.1 42
      exact hk x1 z_23 tz_23 oz_23 (by omega)

set_option maxHeartbeats 2000000 in
theorem s_X9_readRule  (z : St) (P : St → Prop) (ht : TM z) (h0 : (gI z 38).toInt ≤ (gI z 36).toInt) (hk : ∀ (z2 : St), TM z2 → Same [34, 37, 38, 39, 41, 42] [24] z z2 → ((gI z2 38).toInt ≤ (gI z 36).toInt ∧ ((gI z2 42).toInt = 1 ∨ (gI z2 34).toInt = (gI z 34).toInt + 1) ∧ (gI z 34).toInt ≤ (gI z2 34).toInt) → P z2) : wp_X9_readRule  z P := by
  unfold wp_X9_readRule
  have g_1 : (113 : Int32).toInt = 113 := by decide
  have g_2 : (117 : Int32).toInt = 117 := by decide
  have g_3 : (105 : Int32).toInt = 105 := by decide
  have g_4 : (101 : Int32).toInt = 101 := by decide
  have g_5 : (116 : Int32).toInt = 116 := by decide
  have g_6 : (0 : Int32).toInt = 0 := by decide
  refine s_X9_isWord ((113 : Int32)) ((117 : Int32)) ((105 : Int32)) ((101 : Int32)) ((116 : Int32)) ((0 : Int32)) z _ ht  (fun r2 hp_7 => ?_)
  rcases hp_7 with ⟨er2, hp_7⟩ | ⟨er2, hp_7⟩
  · subst er2
    intro K4 hK_8
    refine ⟨fun hc => absurd hc (by decide), fun _ => ?_⟩
    refine hK_8 ((0 : Int32)) ?_
    intro K_9 hK_51
    intro K_48 hK_52
    refine ⟨fun hc => absurd hc (by decide), fun _ => ?_⟩
    refine ⟨fun c_50 => ?_, fun c_50 => ?_⟩
    · skip
      have f_53 : 0 ≤ (gI z 34).toInt ∧ (gI z 34).toInt ≤ 20 := ht.1 34
      have i_54 := i_le (show (20 : Int32).toInt = 20 by decide) rfl c_50
      refine hK_52  ?_
      refine hK_51 ((0 : Int32)) ?_
      have g_92 : (0 : Int32).toInt = 0 := by decide
      have f_93 : 0 ≤ (gI z 38).toInt ∧ (gI z 38).toInt ≤ 300 := ht.1 38
      have f_94 : 0 ≤ (gI z 36).toInt ∧ (gI z 36).toInt ≤ 300 := ht.1 36
      refine s_X9_must ((0 : Int32)) z _ ht (by omega) (fun z_55 tz_55 o_96 hp_95 => ?_)
      have oz_55 : Same [34, 37, 38, 39, 41, 42] [24] z z_55 := (Same.rf (z := z)).tr o_96 (by decide) (by decide)
      have f_97 : 0 ≤ (gI z_55 38).toInt ∧ (gI z_55 38).toInt ≤ 300 := tz_55.1 38
      have f_98 : 0 ≤ (gI z_55 42).toInt ∧ (gI z_55 42).toInt ≤ 1 := tz_55.1 42
      have f_99 : 0 ≤ (gI z 42).toInt ∧ (gI z 42).toInt ≤ 1 := ht.1 42
      intro K_56 hK_100
      refine ⟨fun hc => absurd hc (by decide), fun _ => ?_⟩
      refine hK_100 ((3 : Int64)) ?_
      have g_133 : (3 : Int64).toInt = 3 := by decide
      have f_134 : 0 ≤ (gI z_55 36).toInt ∧ (gI z_55 36).toInt ≤ 300 := tz_55.1 36
      have q_135 := (o_96.fi 36 (by decide))
      refine s_X9_number ((3 : Int64)) z_55 _ tz_55 (by omega) (fun r_101 z_102 tz_102 o_137 hp_136 => ?_)
      have oz_102 : Same [34, 37, 38, 39, 41, 42] [24] z z_102 := oz_55.tr o_137 (by decide) (by decide)
      have f_138 : 0 ≤ (gI z_102 38).toInt ∧ (gI z_102 38).toInt ≤ 300 := tz_102.1 38
      have f_139 : 0 ≤ (gI z_102 42).toInt ∧ (gI z_102 42).toInt ≤ 1 := tz_102.1 42
      intro K_103 hK_140
      refine ⟨fun hc => absurd hc (by decide), fun _ => ?_⟩
      have g_141 : (102 : Int32).toInt = 102 := by decide
      have g_142 : (114 : Int32).toInt = 114 := by decide
      have g_143 : (111 : Int32).toInt = 111 := by decide
      have g_144 : (109 : Int32).toInt = 109 := by decide
      have g_145 : (0 : Int32).toInt = 0 := by decide
      have g_146 : (0 : Int32).toInt = 0 := by decide
      refine s_X9_isWord ((102 : Int32)) ((114 : Int32)) ((111 : Int32)) ((109 : Int32)) ((0 : Int32)) ((0 : Int32)) z_102 _ tz_102  (fun r_125 hp_147 => ?_)
      rcases hp_147 with ⟨er_125, hp_147⟩ | ⟨er_125, hp_147⟩
      · subst er_125
        have g_148 : (1 : Int32).toInt = 1 := by decide
        have f_149 : 0 ≤ (gI z_102 36).toInt ∧ (gI z_102 36).toInt ≤ 300 := tz_102.1 36
        have q_150 := ((o_137.fi 36 (by decide))).trans (o_96.fi 36 (by decide))
        refine s_X9_must ((1 : Int32)) z_102 _ tz_102 (by omega) (fun z_126 tz_126 o_152 hp_151 => ?_)
        have oz_126 : Same [34, 37, 38, 39, 41, 42] [24] z z_126 := oz_102.tr o_152 (by decide) (by decide)
        have f_153 : 0 ≤ (gI z_126 38).toInt ∧ (gI z_126 38).toInt ≤ 300 := tz_126.1 38
        have f_154 : 0 ≤ (gI z_126 42).toInt ∧ (gI z_126 42).toInt ≤ 1 := tz_126.1 42
        have g_155 : (23 : Int64).toInt = 23 := by decide
        have f_156 : 0 ≤ (gI z_126 36).toInt ∧ (gI z_126 36).toInt ≤ 300 := tz_126.1 36
        have q_157 := (((o_152.fi 36 (by decide))).trans (o_137.fi 36 (by decide))).trans (o_96.fi 36 (by decide))
        refine s_X9_number ((23 : Int64)) z_126 _ tz_126 (by omega) (fun r_127 z_128 tz_128 o_159 hp_158 => ?_)
        have oz_128 : Same [34, 37, 38, 39, 41, 42] [24] z z_128 := oz_126.tr o_159 (by decide) (by decide)
        have f_160 : 0 ≤ (gI z_128 38).toInt ∧ (gI z_128 38).toInt ≤ 300 := tz_128.1 38
        have f_161 : 0 ≤ (gI z_128 42).toInt ∧ (gI z_128 42).toInt ≤ 1 := tz_128.1 42
        have g_162 : (116 : Int32).toInt = 116 := by decide
        have g_163 : (111 : Int32).toInt = 111 := by decide
        have g_164 : (0 : Int32).toInt = 0 := by decide
        have g_165 : (0 : Int32).toInt = 0 := by decide
        have g_166 : (0 : Int32).toInt = 0 := by decide
        have g_167 : (0 : Int32).toInt = 0 := by decide
        refine s_X9_isWord ((116 : Int32)) ((111 : Int32)) ((0 : Int32)) ((0 : Int32)) ((0 : Int32)) ((0 : Int32)) z_128 _ tz_128  (fun r_129 hp_168 => ?_)
        rcases hp_168 with ⟨er_129, hp_168⟩ | ⟨er_129, hp_168⟩
        · subst er_129
          have g_169 : (1 : Int32).toInt = 1 := by decide
          have f_170 : 0 ≤ (gI z_128 36).toInt ∧ (gI z_128 36).toInt ≤ 300 := tz_128.1 36
          have q_171 := ((((o_159.fi 36 (by decide))).trans (o_152.fi 36 (by decide))).trans (o_137.fi 36 (by decide))).trans (o_96.fi 36 (by decide))
          refine s_X9_must ((1 : Int32)) z_128 _ tz_128 (by omega) (fun z_130 tz_130 o_173 hp_172 => ?_)
          have oz_130 : Same [34, 37, 38, 39, 41, 42] [24] z z_130 := oz_128.tr o_173 (by decide) (by decide)
          have f_174 : 0 ≤ (gI z_130 38).toInt ∧ (gI z_130 38).toInt ≤ 300 := tz_130.1 38
          have f_175 : 0 ≤ (gI z_130 42).toInt ∧ (gI z_130 42).toInt ≤ 1 := tz_130.1 42
          have g_176 : (23 : Int64).toInt = 23 := by decide
          have f_177 : 0 ≤ (gI z_130 36).toInt ∧ (gI z_130 36).toInt ≤ 300 := tz_130.1 36
          have q_178 := (((((o_173.fi 36 (by decide))).trans (o_159.fi 36 (by decide))).trans (o_152.fi 36 (by decide))).trans (o_137.fi 36 (by decide))).trans (o_96.fi 36 (by decide))
          refine s_X9_number ((23 : Int64)) z_130 _ tz_130 (by omega) (fun r_131 z_132 tz_132 o_180 hp_179 => ?_)
          have oz_132 : Same [34, 37, 38, 39, 41, 42] [24] z z_132 := oz_130.tr o_180 (by decide) (by decide)
          have f_181 : 0 ≤ (gI z_132 38).toInt ∧ (gI z_132 38).toInt ≤ 300 := tz_132.1 38
          have f_182 : 0 ≤ (gI z_132 42).toInt ∧ (gI z_132 42).toInt ≤ 1 := tz_132.1 42
          refine hK_140 r_127 r_131 z_132 ?_
          refine ⟨fun c_183 => ?_, fun c_183 => ?_⟩
          · skip
            have i_189 := i_eq rfl (show (0 : Int32).toInt = 0 by decide) c_183
            have f_190 : 0 ≤ (gI z_132 34).toInt ∧ (gI z_132 34).toInt ≤ 20 := tz_132.1 34
            have q_191 := ((((((o_180.fi 34 (by decide))).trans (o_173.fi 34 (by decide))).trans (o_159.fi 34 (by decide))).trans (o_152.fi 34 (by decide))).trans (o_137.fi 34 (by decide))).trans (o_96.fi 34 (by decide))
            refine ⟨vin (a_mul (show (4 : Int32).toInt = 4 by decide) rfl (by omega) (by omega)) (by omega) (by omega), ?_⟩
            intro z_184 ez_184
            have tz_184 : TM z_184 := by rw [ez_184]; exact Ty_wR tz_132 trivial
            have oz_184 : Same [34, 37, 38, 39, 41, 42] [24] z z_184 := oz_132.r (by decide) ez_184
            have f_192 : 0 ≤ (gI z_184 34).toInt ∧ (gI z_184 34).toInt ≤ 20 := tz_184.1 34
            have q_193 := (((((((show (gI z_184 34).toInt = (gI z_132 34).toInt by rw [ez_184]; rfl)).trans (o_180.fi 34 (by decide))).trans (o_173.fi 34 (by decide))).trans (o_159.fi 34 (by decide))).trans (o_152.fi 34 (by decide))).trans (o_137.fi 34 (by decide))).trans (o_96.fi 34 (by decide))
            refine ⟨vin (a_add (a_mul (show (4 : Int32).toInt = 4 by decide) rfl (by omega) (by omega)) (show (1 : Int32).toInt = 1 by decide) (by omega) (by omega)) (by omega) (by omega), ?_⟩
            intro z_185 ez_185
            have tz_185 : TM z_185 := by rw [ez_185]; exact Ty_wR tz_184 trivial
            have oz_185 : Same [34, 37, 38, 39, 41, 42] [24] z z_185 := oz_184.r (by decide) ez_185
            have f_194 : 0 ≤ (gI z_185 34).toInt ∧ (gI z_185 34).toInt ≤ 20 := tz_185.1 34
            have q_195 := ((((((((show (gI z_185 34).toInt = (gI z_184 34).toInt by rw [ez_185]; rfl)).trans (show (gI z_184 34).toInt = (gI z_132 34).toInt by rw [ez_184]; rfl)).trans (o_180.fi 34 (by decide))).trans (o_173.fi 34 (by decide))).trans (o_159.fi 34 (by decide))).trans (o_152.fi 34 (by decide))).trans (o_137.fi 34 (by decide))).trans (o_96.fi 34 (by decide))
            refine ⟨vin (a_add (a_mul (show (4 : Int32).toInt = 4 by decide) rfl (by omega) (by omega)) (show (2 : Int32).toInt = 2 by decide) (by omega) (by omega)) (by omega) (by omega), ?_⟩
            intro z_186 ez_186
            have tz_186 : TM z_186 := by rw [ez_186]; exact Ty_wR tz_185 trivial
            have oz_186 : Same [34, 37, 38, 39, 41, 42] [24] z z_186 := oz_185.r (by decide) ez_186
            have f_196 : 0 ≤ (gI z_186 34).toInt ∧ (gI z_186 34).toInt ≤ 20 := tz_186.1 34
            have q_197 := (((((((((show (gI z_186 34).toInt = (gI z_185 34).toInt by rw [ez_186]; rfl)).trans (show (gI z_185 34).toInt = (gI z_184 34).toInt by rw [ez_185]; rfl)).trans (show (gI z_184 34).toInt = (gI z_132 34).toInt by rw [ez_184]; rfl)).trans (o_180.fi 34 (by decide))).trans (o_173.fi 34 (by decide))).trans (o_159.fi 34 (by decide))).trans (o_152.fi 34 (by decide))).trans (o_137.fi 34 (by decide))).trans (o_96.fi 34 (by decide))
            refine ⟨vin (a_add (a_mul (show (4 : Int32).toInt = 4 by decide) rfl (by omega) (by omega)) (show (3 : Int32).toInt = 3 by decide) (by omega) (by omega)) (by omega) (by omega), ?_⟩
            intro z_187 ez_187
            have tz_187 : TM z_187 := by rw [ez_187]; exact Ty_wR tz_186 trivial
            have oz_187 : Same [34, 37, 38, 39, 41, 42] [24] z z_187 := oz_186.r (by decide) ez_187
            intro z_188 ez_188
            have f_198 : 0 ≤ (gI z_187 34).toInt ∧ (gI z_187 34).toInt ≤ 20 := tz_187.1 34
            have q_199 := ((((((((((show (gI z_187 34).toInt = (gI z_186 34).toInt by rw [ez_187]; rfl)).trans (show (gI z_186 34).toInt = (gI z_185 34).toInt by rw [ez_186]; rfl)).trans (show (gI z_185 34).toInt = (gI z_184 34).toInt by rw [ez_185]; rfl)).trans (show (gI z_184 34).toInt = (gI z_132 34).toInt by rw [ez_184]; rfl)).trans (o_180.fi 34 (by decide))).trans (o_173.fi 34 (by decide))).trans (o_159.fi 34 (by decide))).trans (o_152.fi 34 (by decide))).trans (o_137.fi 34 (by decide))).trans (o_96.fi 34 (by decide))
            have tz_188 : TM z_188 := by rw [ez_188]; exact Ty_wI tz_187 (show 0 ≤ ((gI z_187 34) + (1 : Int32)).toInt ∧ ((gI z_187 34) + (1 : Int32)).toInt ≤ 20 from by rw [(a_add rfl (show (1 : Int32).toInt = 1 by decide) (by omega) (by omega))]; omega)
            have oz_188 : Same [34, 37, 38, 39, 41, 42] [24] z z_188 := oz_187.i (by decide) ez_188
            have f_200 : 0 ≤ (gI z_188 38).toInt ∧ (gI z_188 38).toInt ≤ 300 := tz_188.1 38
            have q_201 := (((((show (gI z_188 38).toInt = (gI z_187 38).toInt by rw [ez_188]; rfl)).trans (show (gI z_187 38).toInt = (gI z_186 38).toInt by rw [ez_187]; rfl)).trans (show (gI z_186 38).toInt = (gI z_185 38).toInt by rw [ez_186]; rfl)).trans (show (gI z_185 38).toInt = (gI z_184 38).toInt by rw [ez_185]; rfl)).trans (show (gI z_184 38).toInt = (gI z_132 38).toInt by rw [ez_184]; rfl)
            have f_202 : 0 ≤ (gI z_188 42).toInt ∧ (gI z_188 42).toInt ≤ 1 := tz_188.1 42
            have q_203 := (((((show (gI z_188 42).toInt = (gI z_187 42).toInt by rw [ez_188]; rfl)).trans (show (gI z_187 42).toInt = (gI z_186 42).toInt by rw [ez_187]; rfl)).trans (show (gI z_186 42).toInt = (gI z_185 42).toInt by rw [ez_186]; rfl)).trans (show (gI z_185 42).toInt = (gI z_184 42).toInt by rw [ez_185]; rfl)).trans (show (gI z_184 42).toInt = (gI z_132 42).toInt by rw [ez_184]; rfl)
            have f_204 : 0 ≤ (gI z_188 34).toInt ∧ (gI z_188 34).toInt ≤ 20 := tz_188.1 34
            have q_205 := (show (gI z_188 34).toInt = ((gI z_187 34) + (1 : Int32)).toInt by rw [ez_188]; rfl)
            have q_206 : ((gI z_187 34) + (1 : Int32)).toInt = ((gI z_187 34).toInt + (1)) := (a_add rfl (show (1 : Int32).toInt = 1 by decide) (by omega) (by omega))
            exact hk z_188 tz_188 oz_188 (by omega)
          · skip
            have i_207 := i_ne rfl (show (0 : Int32).toInt = 0 by decide) c_183
            have f_208 : 0 ≤ (gI z_132 34).toInt ∧ (gI z_132 34).toInt ≤ 20 := tz_132.1 34
            have q_209 := ((((((o_180.fi 34 (by decide))).trans (o_173.fi 34 (by decide))).trans (o_159.fi 34 (by decide))).trans (o_152.fi 34 (by decide))).trans (o_137.fi 34 (by decide))).trans (o_96.fi 34 (by decide))
            exact hk z_132 tz_132 oz_132 (by omega)
        · subst er_129
          have g_210 : (0 : Int32).toInt = 0 := by decide
          have f_211 : 0 ≤ (gI z_128 36).toInt ∧ (gI z_128 36).toInt ≤ 300 := tz_128.1 36
          have q_212 := ((((o_159.fi 36 (by decide))).trans (o_152.fi 36 (by decide))).trans (o_137.fi 36 (by decide))).trans (o_96.fi 36 (by decide))
          refine s_X9_must ((0 : Int32)) z_128 _ tz_128 (by omega) (fun z_130 tz_130 o_214 hp_213 => ?_)
          have oz_130 : Same [34, 37, 38, 39, 41, 42] [24] z z_130 := oz_128.tr o_214 (by decide) (by decide)
          have f_215 : 0 ≤ (gI z_130 38).toInt ∧ (gI z_130 38).toInt ≤ 300 := tz_130.1 38
          have f_216 : 0 ≤ (gI z_130 42).toInt ∧ (gI z_130 42).toInt ≤ 1 := tz_130.1 42
          have g_217 : (23 : Int64).toInt = 23 := by decide
          have f_218 : 0 ≤ (gI z_130 36).toInt ∧ (gI z_130 36).toInt ≤ 300 := tz_130.1 36
          have q_219 := (((((o_214.fi 36 (by decide))).trans (o_159.fi 36 (by decide))).trans (o_152.fi 36 (by decide))).trans (o_137.fi 36 (by decide))).trans (o_96.fi 36 (by decide))
          refine s_X9_number ((23 : Int64)) z_130 _ tz_130 (by omega) (fun r_131 z_132 tz_132 o_221 hp_220 => ?_)
          have oz_132 : Same [34, 37, 38, 39, 41, 42] [24] z z_132 := oz_130.tr o_221 (by decide) (by decide)
          have f_222 : 0 ≤ (gI z_132 38).toInt ∧ (gI z_132 38).toInt ≤ 300 := tz_132.1 38
          have f_223 : 0 ≤ (gI z_132 42).toInt ∧ (gI z_132 42).toInt ≤ 1 := tz_132.1 42
          refine hK_140 r_127 r_131 z_132 ?_
          refine ⟨fun c_224 => ?_, fun c_224 => ?_⟩
          · skip
            have i_230 := i_eq rfl (show (0 : Int32).toInt = 0 by decide) c_224
            have f_231 : 0 ≤ (gI z_132 34).toInt ∧ (gI z_132 34).toInt ≤ 20 := tz_132.1 34
            have q_232 := ((((((o_221.fi 34 (by decide))).trans (o_214.fi 34 (by decide))).trans (o_159.fi 34 (by decide))).trans (o_152.fi 34 (by decide))).trans (o_137.fi 34 (by decide))).trans (o_96.fi 34 (by decide))
            refine ⟨vin (a_mul (show (4 : Int32).toInt = 4 by decide) rfl (by omega) (by omega)) (by omega) (by omega), ?_⟩
            intro z_225 ez_225
            have tz_225 : TM z_225 := by rw [ez_225]; exact Ty_wR tz_132 trivial
            have oz_225 : Same [34, 37, 38, 39, 41, 42] [24] z z_225 := oz_132.r (by decide) ez_225
            have f_233 : 0 ≤ (gI z_225 34).toInt ∧ (gI z_225 34).toInt ≤ 20 := tz_225.1 34
            have q_234 := (((((((show (gI z_225 34).toInt = (gI z_132 34).toInt by rw [ez_225]; rfl)).trans (o_221.fi 34 (by decide))).trans (o_214.fi 34 (by decide))).trans (o_159.fi 34 (by decide))).trans (o_152.fi 34 (by decide))).trans (o_137.fi 34 (by decide))).trans (o_96.fi 34 (by decide))
            refine ⟨vin (a_add (a_mul (show (4 : Int32).toInt = 4 by decide) rfl (by omega) (by omega)) (show (1 : Int32).toInt = 1 by decide) (by omega) (by omega)) (by omega) (by omega), ?_⟩
            intro z_226 ez_226
            have tz_226 : TM z_226 := by rw [ez_226]; exact Ty_wR tz_225 trivial
            have oz_226 : Same [34, 37, 38, 39, 41, 42] [24] z z_226 := oz_225.r (by decide) ez_226
            have f_235 : 0 ≤ (gI z_226 34).toInt ∧ (gI z_226 34).toInt ≤ 20 := tz_226.1 34
            have q_236 := ((((((((show (gI z_226 34).toInt = (gI z_225 34).toInt by rw [ez_226]; rfl)).trans (show (gI z_225 34).toInt = (gI z_132 34).toInt by rw [ez_225]; rfl)).trans (o_221.fi 34 (by decide))).trans (o_214.fi 34 (by decide))).trans (o_159.fi 34 (by decide))).trans (o_152.fi 34 (by decide))).trans (o_137.fi 34 (by decide))).trans (o_96.fi 34 (by decide))
            refine ⟨vin (a_add (a_mul (show (4 : Int32).toInt = 4 by decide) rfl (by omega) (by omega)) (show (2 : Int32).toInt = 2 by decide) (by omega) (by omega)) (by omega) (by omega), ?_⟩
            intro z_227 ez_227
            have tz_227 : TM z_227 := by rw [ez_227]; exact Ty_wR tz_226 trivial
            have oz_227 : Same [34, 37, 38, 39, 41, 42] [24] z z_227 := oz_226.r (by decide) ez_227
            have f_237 : 0 ≤ (gI z_227 34).toInt ∧ (gI z_227 34).toInt ≤ 20 := tz_227.1 34
            have q_238 := (((((((((show (gI z_227 34).toInt = (gI z_226 34).toInt by rw [ez_227]; rfl)).trans (show (gI z_226 34).toInt = (gI z_225 34).toInt by rw [ez_226]; rfl)).trans (show (gI z_225 34).toInt = (gI z_132 34).toInt by rw [ez_225]; rfl)).trans (o_221.fi 34 (by decide))).trans (o_214.fi 34 (by decide))).trans (o_159.fi 34 (by decide))).trans (o_152.fi 34 (by decide))).trans (o_137.fi 34 (by decide))).trans (o_96.fi 34 (by decide))
            refine ⟨vin (a_add (a_mul (show (4 : Int32).toInt = 4 by decide) rfl (by omega) (by omega)) (show (3 : Int32).toInt = 3 by decide) (by omega) (by omega)) (by omega) (by omega), ?_⟩
            intro z_228 ez_228
            have tz_228 : TM z_228 := by rw [ez_228]; exact Ty_wR tz_227 trivial
            have oz_228 : Same [34, 37, 38, 39, 41, 42] [24] z z_228 := oz_227.r (by decide) ez_228
            intro z_229 ez_229
            have f_239 : 0 ≤ (gI z_228 34).toInt ∧ (gI z_228 34).toInt ≤ 20 := tz_228.1 34
            have q_240 := ((((((((((show (gI z_228 34).toInt = (gI z_227 34).toInt by rw [ez_228]; rfl)).trans (show (gI z_227 34).toInt = (gI z_226 34).toInt by rw [ez_227]; rfl)).trans (show (gI z_226 34).toInt = (gI z_225 34).toInt by rw [ez_226]; rfl)).trans (show (gI z_225 34).toInt = (gI z_132 34).toInt by rw [ez_225]; rfl)).trans (o_221.fi 34 (by decide))).trans (o_214.fi 34 (by decide))).trans (o_159.fi 34 (by decide))).trans (o_152.fi 34 (by decide))).trans (o_137.fi 34 (by decide))).trans (o_96.fi 34 (by decide))
            have tz_229 : TM z_229 := by rw [ez_229]; exact Ty_wI tz_228 (show 0 ≤ ((gI z_228 34) + (1 : Int32)).toInt ∧ ((gI z_228 34) + (1 : Int32)).toInt ≤ 20 from by rw [(a_add rfl (show (1 : Int32).toInt = 1 by decide) (by omega) (by omega))]; omega)
            have oz_229 : Same [34, 37, 38, 39, 41, 42] [24] z z_229 := oz_228.i (by decide) ez_229
            have f_241 : 0 ≤ (gI z_229 38).toInt ∧ (gI z_229 38).toInt ≤ 300 := tz_229.1 38
            have q_242 := (((((show (gI z_229 38).toInt = (gI z_228 38).toInt by rw [ez_229]; rfl)).trans (show (gI z_228 38).toInt = (gI z_227 38).toInt by rw [ez_228]; rfl)).trans (show (gI z_227 38).toInt = (gI z_226 38).toInt by rw [ez_227]; rfl)).trans (show (gI z_226 38).toInt = (gI z_225 38).toInt by rw [ez_226]; rfl)).trans (show (gI z_225 38).toInt = (gI z_132 38).toInt by rw [ez_225]; rfl)
            have f_243 : 0 ≤ (gI z_229 42).toInt ∧ (gI z_229 42).toInt ≤ 1 := tz_229.1 42
            have q_244 := (((((show (gI z_229 42).toInt = (gI z_228 42).toInt by rw [ez_229]; rfl)).trans (show (gI z_228 42).toInt = (gI z_227 42).toInt by rw [ez_228]; rfl)).trans (show (gI z_227 42).toInt = (gI z_226 42).toInt by rw [ez_227]; rfl)).trans (show (gI z_226 42).toInt = (gI z_225 42).toInt by rw [ez_226]; rfl)).trans (show (gI z_225 42).toInt = (gI z_132 42).toInt by rw [ez_225]; rfl)
            have f_245 : 0 ≤ (gI z_229 34).toInt ∧ (gI z_229 34).toInt ≤ 20 := tz_229.1 34
            have q_246 := (show (gI z_229 34).toInt = ((gI z_228 34) + (1 : Int32)).toInt by rw [ez_229]; rfl)
            have q_247 : ((gI z_228 34) + (1 : Int32)).toInt = ((gI z_228 34).toInt + (1)) := (a_add rfl (show (1 : Int32).toInt = 1 by decide) (by omega) (by omega))
            exact hk z_229 tz_229 oz_229 (by omega)
          · skip
            have i_248 := i_ne rfl (show (0 : Int32).toInt = 0 by decide) c_224
            have f_249 : 0 ≤ (gI z_132 34).toInt ∧ (gI z_132 34).toInt ≤ 20 := tz_132.1 34
            have q_250 := ((((((o_221.fi 34 (by decide))).trans (o_214.fi 34 (by decide))).trans (o_159.fi 34 (by decide))).trans (o_152.fi 34 (by decide))).trans (o_137.fi 34 (by decide))).trans (o_96.fi 34 (by decide))
            exact hk z_132 tz_132 oz_132 (by omega)
      · subst er_125
        have g_251 : (0 : Int32).toInt = 0 := by decide
        have f_252 : 0 ≤ (gI z_102 36).toInt ∧ (gI z_102 36).toInt ≤ 300 := tz_102.1 36
        have q_253 := ((o_137.fi 36 (by decide))).trans (o_96.fi 36 (by decide))
        refine s_X9_must ((0 : Int32)) z_102 _ tz_102 (by omega) (fun z_126 tz_126 o_255 hp_254 => ?_)
        have oz_126 : Same [34, 37, 38, 39, 41, 42] [24] z z_126 := oz_102.tr o_255 (by decide) (by decide)
        have f_256 : 0 ≤ (gI z_126 38).toInt ∧ (gI z_126 38).toInt ≤ 300 := tz_126.1 38
        have f_257 : 0 ≤ (gI z_126 42).toInt ∧ (gI z_126 42).toInt ≤ 1 := tz_126.1 42
        have g_258 : (23 : Int64).toInt = 23 := by decide
        have f_259 : 0 ≤ (gI z_126 36).toInt ∧ (gI z_126 36).toInt ≤ 300 := tz_126.1 36
        have q_260 := (((o_255.fi 36 (by decide))).trans (o_137.fi 36 (by decide))).trans (o_96.fi 36 (by decide))
        refine s_X9_number ((23 : Int64)) z_126 _ tz_126 (by omega) (fun r_127 z_128 tz_128 o_262 hp_261 => ?_)
        have oz_128 : Same [34, 37, 38, 39, 41, 42] [24] z z_128 := oz_126.tr o_262 (by decide) (by decide)
        have f_263 : 0 ≤ (gI z_128 38).toInt ∧ (gI z_128 38).toInt ≤ 300 := tz_128.1 38
        have f_264 : 0 ≤ (gI z_128 42).toInt ∧ (gI z_128 42).toInt ≤ 1 := tz_128.1 42
        have g_265 : (116 : Int32).toInt = 116 := by decide
        have g_266 : (111 : Int32).toInt = 111 := by decide
        have g_267 : (0 : Int32).toInt = 0 := by decide
        have g_268 : (0 : Int32).toInt = 0 := by decide
        have g_269 : (0 : Int32).toInt = 0 := by decide
        have g_270 : (0 : Int32).toInt = 0 := by decide
        refine s_X9_isWord ((116 : Int32)) ((111 : Int32)) ((0 : Int32)) ((0 : Int32)) ((0 : Int32)) ((0 : Int32)) z_128 _ tz_128  (fun r_129 hp_271 => ?_)
        rcases hp_271 with ⟨er_129, hp_271⟩ | ⟨er_129, hp_271⟩
        · subst er_129
          have g_272 : (1 : Int32).toInt = 1 := by decide
          have f_273 : 0 ≤ (gI z_128 36).toInt ∧ (gI z_128 36).toInt ≤ 300 := tz_128.1 36
          have q_274 := ((((o_262.fi 36 (by decide))).trans (o_255.fi 36 (by decide))).trans (o_137.fi 36 (by decide))).trans (o_96.fi 36 (by decide))
          refine s_X9_must ((1 : Int32)) z_128 _ tz_128 (by omega) (fun z_130 tz_130 o_276 hp_275 => ?_)
          have oz_130 : Same [34, 37, 38, 39, 41, 42] [24] z z_130 := oz_128.tr o_276 (by decide) (by decide)
          have f_277 : 0 ≤ (gI z_130 38).toInt ∧ (gI z_130 38).toInt ≤ 300 := tz_130.1 38
          have f_278 : 0 ≤ (gI z_130 42).toInt ∧ (gI z_130 42).toInt ≤ 1 := tz_130.1 42
          have g_279 : (23 : Int64).toInt = 23 := by decide
          have f_280 : 0 ≤ (gI z_130 36).toInt ∧ (gI z_130 36).toInt ≤ 300 := tz_130.1 36
          have q_281 := (((((o_276.fi 36 (by decide))).trans (o_262.fi 36 (by decide))).trans (o_255.fi 36 (by decide))).trans (o_137.fi 36 (by decide))).trans (o_96.fi 36 (by decide))
          refine s_X9_number ((23 : Int64)) z_130 _ tz_130 (by omega) (fun r_131 z_132 tz_132 o_283 hp_282 => ?_)
          have oz_132 : Same [34, 37, 38, 39, 41, 42] [24] z z_132 := oz_130.tr o_283 (by decide) (by decide)
          have f_284 : 0 ≤ (gI z_132 38).toInt ∧ (gI z_132 38).toInt ≤ 300 := tz_132.1 38
          have f_285 : 0 ≤ (gI z_132 42).toInt ∧ (gI z_132 42).toInt ≤ 1 := tz_132.1 42
          refine hK_140 r_127 r_131 z_132 ?_
          refine ⟨fun c_286 => ?_, fun c_286 => ?_⟩
          · skip
            have i_292 := i_eq rfl (show (0 : Int32).toInt = 0 by decide) c_286
            have f_293 : 0 ≤ (gI z_132 34).toInt ∧ (gI z_132 34).toInt ≤ 20 := tz_132.1 34
            have q_294 := ((((((o_283.fi 34 (by decide))).trans (o_276.fi 34 (by decide))).trans (o_262.fi 34 (by decide))).trans (o_255.fi 34 (by decide))).trans (o_137.fi 34 (by decide))).trans (o_96.fi 34 (by decide))
            refine ⟨vin (a_mul (show (4 : Int32).toInt = 4 by decide) rfl (by omega) (by omega)) (by omega) (by omega), ?_⟩
            intro z_287 ez_287
            have tz_287 : TM z_287 := by rw [ez_287]; exact Ty_wR tz_132 trivial
            have oz_287 : Same [34, 37, 38, 39, 41, 42] [24] z z_287 := oz_132.r (by decide) ez_287
            have f_295 : 0 ≤ (gI z_287 34).toInt ∧ (gI z_287 34).toInt ≤ 20 := tz_287.1 34
            have q_296 := (((((((show (gI z_287 34).toInt = (gI z_132 34).toInt by rw [ez_287]; rfl)).trans (o_283.fi 34 (by decide))).trans (o_276.fi 34 (by decide))).trans (o_262.fi 34 (by decide))).trans (o_255.fi 34 (by decide))).trans (o_137.fi 34 (by decide))).trans (o_96.fi 34 (by decide))
            refine ⟨vin (a_add (a_mul (show (4 : Int32).toInt = 4 by decide) rfl (by omega) (by omega)) (show (1 : Int32).toInt = 1 by decide) (by omega) (by omega)) (by omega) (by omega), ?_⟩
            intro z_288 ez_288
            have tz_288 : TM z_288 := by rw [ez_288]; exact Ty_wR tz_287 trivial
            have oz_288 : Same [34, 37, 38, 39, 41, 42] [24] z z_288 := oz_287.r (by decide) ez_288
            have f_297 : 0 ≤ (gI z_288 34).toInt ∧ (gI z_288 34).toInt ≤ 20 := tz_288.1 34
            have q_298 := ((((((((show (gI z_288 34).toInt = (gI z_287 34).toInt by rw [ez_288]; rfl)).trans (show (gI z_287 34).toInt = (gI z_132 34).toInt by rw [ez_287]; rfl)).trans (o_283.fi 34 (by decide))).trans (o_276.fi 34 (by decide))).trans (o_262.fi 34 (by decide))).trans (o_255.fi 34 (by decide))).trans (o_137.fi 34 (by decide))).trans (o_96.fi 34 (by decide))
            refine ⟨vin (a_add (a_mul (show (4 : Int32).toInt = 4 by decide) rfl (by omega) (by omega)) (show (2 : Int32).toInt = 2 by decide) (by omega) (by omega)) (by omega) (by omega), ?_⟩
            intro z_289 ez_289
            have tz_289 : TM z_289 := by rw [ez_289]; exact Ty_wR tz_288 trivial
            have oz_289 : Same [34, 37, 38, 39, 41, 42] [24] z z_289 := oz_288.r (by decide) ez_289
            have f_299 : 0 ≤ (gI z_289 34).toInt ∧ (gI z_289 34).toInt ≤ 20 := tz_289.1 34
            have q_300 := (((((((((show (gI z_289 34).toInt = (gI z_288 34).toInt by rw [ez_289]; rfl)).trans (show (gI z_288 34).toInt = (gI z_287 34).toInt by rw [ez_288]; rfl)).trans (show (gI z_287 34).toInt = (gI z_132 34).toInt by rw [ez_287]; rfl)).trans (o_283.fi 34 (by decide))).trans (o_276.fi 34 (by decide))).trans (o_262.fi 34 (by decide))).trans (o_255.fi 34 (by decide))).trans (o_137.fi 34 (by decide))).trans (o_96.fi 34 (by decide))
            refine ⟨vin (a_add (a_mul (show (4 : Int32).toInt = 4 by decide) rfl (by omega) (by omega)) (show (3 : Int32).toInt = 3 by decide) (by omega) (by omega)) (by omega) (by omega), ?_⟩
            intro z_290 ez_290
            have tz_290 : TM z_290 := by rw [ez_290]; exact Ty_wR tz_289 trivial
            have oz_290 : Same [34, 37, 38, 39, 41, 42] [24] z z_290 := oz_289.r (by decide) ez_290
            intro z_291 ez_291
            have f_301 : 0 ≤ (gI z_290 34).toInt ∧ (gI z_290 34).toInt ≤ 20 := tz_290.1 34
            have q_302 := ((((((((((show (gI z_290 34).toInt = (gI z_289 34).toInt by rw [ez_290]; rfl)).trans (show (gI z_289 34).toInt = (gI z_288 34).toInt by rw [ez_289]; rfl)).trans (show (gI z_288 34).toInt = (gI z_287 34).toInt by rw [ez_288]; rfl)).trans (show (gI z_287 34).toInt = (gI z_132 34).toInt by rw [ez_287]; rfl)).trans (o_283.fi 34 (by decide))).trans (o_276.fi 34 (by decide))).trans (o_262.fi 34 (by decide))).trans (o_255.fi 34 (by decide))).trans (o_137.fi 34 (by decide))).trans (o_96.fi 34 (by decide))
            have tz_291 : TM z_291 := by rw [ez_291]; exact Ty_wI tz_290 (show 0 ≤ ((gI z_290 34) + (1 : Int32)).toInt ∧ ((gI z_290 34) + (1 : Int32)).toInt ≤ 20 from by rw [(a_add rfl (show (1 : Int32).toInt = 1 by decide) (by omega) (by omega))]; omega)
            have oz_291 : Same [34, 37, 38, 39, 41, 42] [24] z z_291 := oz_290.i (by decide) ez_291
            have f_303 : 0 ≤ (gI z_291 38).toInt ∧ (gI z_291 38).toInt ≤ 300 := tz_291.1 38
            have q_304 := (((((show (gI z_291 38).toInt = (gI z_290 38).toInt by rw [ez_291]; rfl)).trans (show (gI z_290 38).toInt = (gI z_289 38).toInt by rw [ez_290]; rfl)).trans (show (gI z_289 38).toInt = (gI z_288 38).toInt by rw [ez_289]; rfl)).trans (show (gI z_288 38).toInt = (gI z_287 38).toInt by rw [ez_288]; rfl)).trans (show (gI z_287 38).toInt = (gI z_132 38).toInt by rw [ez_287]; rfl)
            have f_305 : 0 ≤ (gI z_291 42).toInt ∧ (gI z_291 42).toInt ≤ 1 := tz_291.1 42
            have q_306 := (((((show (gI z_291 42).toInt = (gI z_290 42).toInt by rw [ez_291]; rfl)).trans (show (gI z_290 42).toInt = (gI z_289 42).toInt by rw [ez_290]; rfl)).trans (show (gI z_289 42).toInt = (gI z_288 42).toInt by rw [ez_289]; rfl)).trans (show (gI z_288 42).toInt = (gI z_287 42).toInt by rw [ez_288]; rfl)).trans (show (gI z_287 42).toInt = (gI z_132 42).toInt by rw [ez_287]; rfl)
            have f_307 : 0 ≤ (gI z_291 34).toInt ∧ (gI z_291 34).toInt ≤ 20 := tz_291.1 34
            have q_308 := (show (gI z_291 34).toInt = ((gI z_290 34) + (1 : Int32)).toInt by rw [ez_291]; rfl)
            have q_309 : ((gI z_290 34) + (1 : Int32)).toInt = ((gI z_290 34).toInt + (1)) := (a_add rfl (show (1 : Int32).toInt = 1 by decide) (by omega) (by omega))
            exact hk z_291 tz_291 oz_291 (by omega)
          · skip
            have i_310 := i_ne rfl (show (0 : Int32).toInt = 0 by decide) c_286
            have f_311 : 0 ≤ (gI z_132 34).toInt ∧ (gI z_132 34).toInt ≤ 20 := tz_132.1 34
            have q_312 := ((((((o_283.fi 34 (by decide))).trans (o_276.fi 34 (by decide))).trans (o_262.fi 34 (by decide))).trans (o_255.fi 34 (by decide))).trans (o_137.fi 34 (by decide))).trans (o_96.fi 34 (by decide))
            exact hk z_132 tz_132 oz_132 (by omega)
        · subst er_129
          have g_313 : (0 : Int32).toInt = 0 := by decide
          have f_314 : 0 ≤ (gI z_128 36).toInt ∧ (gI z_128 36).toInt ≤ 300 := tz_128.1 36
          have q_315 := ((((o_262.fi 36 (by decide))).trans (o_255.fi 36 (by decide))).trans (o_137.fi 36 (by decide))).trans (o_96.fi 36 (by decide))
          refine s_X9_must ((0 : Int32)) z_128 _ tz_128 (by omega) (fun z_130 tz_130 o_317 hp_316 => ?_)
          have oz_130 : Same [34, 37, 38, 39, 41, 42] [24] z z_130 := oz_128.tr o_317 (by decide) (by decide)
          have f_318 : 0 ≤ (gI z_130 38).toInt ∧ (gI z_130 38).toInt ≤ 300 := tz_130.1 38
          have f_319 : 0 ≤ (gI z_130 42).toInt ∧ (gI z_130 42).toInt ≤ 1 := tz_130.1 42
          have g_320 : (23 : Int64).toInt = 23 := by decide
          have f_321 : 0 ≤ (gI z_130 36).toInt ∧ (gI z_130 36).toInt ≤ 300 := tz_130.1 36
          have q_322 := (((((o_317.fi 36 (by decide))).trans (o_262.fi 36 (by decide))).trans (o_255.fi 36 (by decide))).trans (o_137.fi 36 (by decide))).trans (o_96.fi 36 (by decide))
          refine s_X9_number ((23 : Int64)) z_130 _ tz_130 (by omega) (fun r_131 z_132 tz_132 o_324 hp_323 => ?_)
          have oz_132 : Same [34, 37, 38, 39, 41, 42] [24] z z_132 := oz_130.tr o_324 (by decide) (by decide)
          have f_325 : 0 ≤ (gI z_132 38).toInt ∧ (gI z_132 38).toInt ≤ 300 := tz_132.1 38
          have f_326 : 0 ≤ (gI z_132 42).toInt ∧ (gI z_132 42).toInt ≤ 1 := tz_132.1 42
          refine hK_140 r_127 r_131 z_132 ?_
          refine ⟨fun c_327 => ?_, fun c_327 => ?_⟩
          · skip
            have i_333 := i_eq rfl (show (0 : Int32).toInt = 0 by decide) c_327
            have f_334 : 0 ≤ (gI z_132 34).toInt ∧ (gI z_132 34).toInt ≤ 20 := tz_132.1 34
            have q_335 := ((((((o_324.fi 34 (by decide))).trans (o_317.fi 34 (by decide))).trans (o_262.fi 34 (by decide))).trans (o_255.fi 34 (by decide))).trans (o_137.fi 34 (by decide))).trans (o_96.fi 34 (by decide))
            refine ⟨vin (a_mul (show (4 : Int32).toInt = 4 by decide) rfl (by omega) (by omega)) (by omega) (by omega), ?_⟩
            intro z_328 ez_328
            have tz_328 : TM z_328 := by rw [ez_328]; exact Ty_wR tz_132 trivial
            have oz_328 : Same [34, 37, 38, 39, 41, 42] [24] z z_328 := oz_132.r (by decide) ez_328
            have f_336 : 0 ≤ (gI z_328 34).toInt ∧ (gI z_328 34).toInt ≤ 20 := tz_328.1 34
            have q_337 := (((((((show (gI z_328 34).toInt = (gI z_132 34).toInt by rw [ez_328]; rfl)).trans (o_324.fi 34 (by decide))).trans (o_317.fi 34 (by decide))).trans (o_262.fi 34 (by decide))).trans (o_255.fi 34 (by decide))).trans (o_137.fi 34 (by decide))).trans (o_96.fi 34 (by decide))
            refine ⟨vin (a_add (a_mul (show (4 : Int32).toInt = 4 by decide) rfl (by omega) (by omega)) (show (1 : Int32).toInt = 1 by decide) (by omega) (by omega)) (by omega) (by omega), ?_⟩
            intro z_329 ez_329
            have tz_329 : TM z_329 := by rw [ez_329]; exact Ty_wR tz_328 trivial
            have oz_329 : Same [34, 37, 38, 39, 41, 42] [24] z z_329 := oz_328.r (by decide) ez_329
            have f_338 : 0 ≤ (gI z_329 34).toInt ∧ (gI z_329 34).toInt ≤ 20 := tz_329.1 34
            have q_339 := ((((((((show (gI z_329 34).toInt = (gI z_328 34).toInt by rw [ez_329]; rfl)).trans (show (gI z_328 34).toInt = (gI z_132 34).toInt by rw [ez_328]; rfl)).trans (o_324.fi 34 (by decide))).trans (o_317.fi 34 (by decide))).trans (o_262.fi 34 (by decide))).trans (o_255.fi 34 (by decide))).trans (o_137.fi 34 (by decide))).trans (o_96.fi 34 (by decide))
            refine ⟨vin (a_add (a_mul (show (4 : Int32).toInt = 4 by decide) rfl (by omega) (by omega)) (show (2 : Int32).toInt = 2 by decide) (by omega) (by omega)) (by omega) (by omega), ?_⟩
            intro z_330 ez_330
            have tz_330 : TM z_330 := by rw [ez_330]; exact Ty_wR tz_329 trivial
            have oz_330 : Same [34, 37, 38, 39, 41, 42] [24] z z_330 := oz_329.r (by decide) ez_330
            have f_340 : 0 ≤ (gI z_330 34).toInt ∧ (gI z_330 34).toInt ≤ 20 := tz_330.1 34
            have q_341 := (((((((((show (gI z_330 34).toInt = (gI z_329 34).toInt by rw [ez_330]; rfl)).trans (show (gI z_329 34).toInt = (gI z_328 34).toInt by rw [ez_329]; rfl)).trans (show (gI z_328 34).toInt = (gI z_132 34).toInt by rw [ez_328]; rfl)).trans (o_324.fi 34 (by decide))).trans (o_317.fi 34 (by decide))).trans (o_262.fi 34 (by decide))).trans (o_255.fi 34 (by decide))).trans (o_137.fi 34 (by decide))).trans (o_96.fi 34 (by decide))
            refine ⟨vin (a_add (a_mul (show (4 : Int32).toInt = 4 by decide) rfl (by omega) (by omega)) (show (3 : Int32).toInt = 3 by decide) (by omega) (by omega)) (by omega) (by omega), ?_⟩
            intro z_331 ez_331
            have tz_331 : TM z_331 := by rw [ez_331]; exact Ty_wR tz_330 trivial
            have oz_331 : Same [34, 37, 38, 39, 41, 42] [24] z z_331 := oz_330.r (by decide) ez_331
            intro z_332 ez_332
            have f_342 : 0 ≤ (gI z_331 34).toInt ∧ (gI z_331 34).toInt ≤ 20 := tz_331.1 34
            have q_343 := ((((((((((show (gI z_331 34).toInt = (gI z_330 34).toInt by rw [ez_331]; rfl)).trans (show (gI z_330 34).toInt = (gI z_329 34).toInt by rw [ez_330]; rfl)).trans (show (gI z_329 34).toInt = (gI z_328 34).toInt by rw [ez_329]; rfl)).trans (show (gI z_328 34).toInt = (gI z_132 34).toInt by rw [ez_328]; rfl)).trans (o_324.fi 34 (by decide))).trans (o_317.fi 34 (by decide))).trans (o_262.fi 34 (by decide))).trans (o_255.fi 34 (by decide))).trans (o_137.fi 34 (by decide))).trans (o_96.fi 34 (by decide))
            have tz_332 : TM z_332 := by rw [ez_332]; exact Ty_wI tz_331 (show 0 ≤ ((gI z_331 34) + (1 : Int32)).toInt ∧ ((gI z_331 34) + (1 : Int32)).toInt ≤ 20 from by rw [(a_add rfl (show (1 : Int32).toInt = 1 by decide) (by omega) (by omega))]; omega)
            have oz_332 : Same [34, 37, 38, 39, 41, 42] [24] z z_332 := oz_331.i (by decide) ez_332
            have f_344 : 0 ≤ (gI z_332 38).toInt ∧ (gI z_332 38).toInt ≤ 300 := tz_332.1 38
            have q_345 := (((((show (gI z_332 38).toInt = (gI z_331 38).toInt by rw [ez_332]; rfl)).trans (show (gI z_331 38).toInt = (gI z_330 38).toInt by rw [ez_331]; rfl)).trans (show (gI z_330 38).toInt = (gI z_329 38).toInt by rw [ez_330]; rfl)).trans (show (gI z_329 38).toInt = (gI z_328 38).toInt by rw [ez_329]; rfl)).trans (show (gI z_328 38).toInt = (gI z_132 38).toInt by rw [ez_328]; rfl)
            have f_346 : 0 ≤ (gI z_332 42).toInt ∧ (gI z_332 42).toInt ≤ 1 := tz_332.1 42
            have q_347 := (((((show (gI z_332 42).toInt = (gI z_331 42).toInt by rw [ez_332]; rfl)).trans (show (gI z_331 42).toInt = (gI z_330 42).toInt by rw [ez_331]; rfl)).trans (show (gI z_330 42).toInt = (gI z_329 42).toInt by rw [ez_330]; rfl)).trans (show (gI z_329 42).toInt = (gI z_328 42).toInt by rw [ez_329]; rfl)).trans (show (gI z_328 42).toInt = (gI z_132 42).toInt by rw [ez_328]; rfl)
            have f_348 : 0 ≤ (gI z_332 34).toInt ∧ (gI z_332 34).toInt ≤ 20 := tz_332.1 34
            have q_349 := (show (gI z_332 34).toInt = ((gI z_331 34) + (1 : Int32)).toInt by rw [ez_332]; rfl)
            have q_350 : ((gI z_331 34) + (1 : Int32)).toInt = ((gI z_331 34).toInt + (1)) := (a_add rfl (show (1 : Int32).toInt = 1 by decide) (by omega) (by omega))
            exact hk z_332 tz_332 oz_332 (by omega)
          · skip
            have i_351 := i_ne rfl (show (0 : Int32).toInt = 0 by decide) c_327
            have f_352 : 0 ≤ (gI z_132 34).toInt ∧ (gI z_132 34).toInt ≤ 20 := tz_132.1 34
            have q_353 := ((((((o_324.fi 34 (by decide))).trans (o_317.fi 34 (by decide))).trans (o_262.fi 34 (by decide))).trans (o_255.fi 34 (by decide))).trans (o_137.fi 34 (by decide))).trans (o_96.fi 34 (by decide))
            exact hk z_132 tz_132 oz_132 (by omega)
    · skip
      have f_354 : 0 ≤ (gI z 34).toInt ∧ (gI z 34).toInt ≤ 20 := ht.1 34
      have i_355 := i_nle (show (20 : Int32).toInt = 20 by decide) rfl c_50
      refine hK_51 ((1 : Int32)) ?_
      have g_393 : (1 : Int32).toInt = 1 := by decide
      have f_394 : 0 ≤ (gI z 38).toInt ∧ (gI z 38).toInt ≤ 300 := ht.1 38
      have f_395 : 0 ≤ (gI z 36).toInt ∧ (gI z 36).toInt ≤ 300 := ht.1 36
      refine s_X9_must ((1 : Int32)) z _ ht (by omega) (fun z_356 tz_356 o_397 hp_396 => ?_)
      have oz_356 : Same [34, 37, 38, 39, 41, 42] [24] z z_356 := (Same.rf (z := z)).tr o_397 (by decide) (by decide)
      have f_398 : 0 ≤ (gI z_356 38).toInt ∧ (gI z_356 38).toInt ≤ 300 := tz_356.1 38
      have f_399 : 0 ≤ (gI z_356 42).toInt ∧ (gI z_356 42).toInt ≤ 1 := tz_356.1 42
      have f_400 : 0 ≤ (gI z 42).toInt ∧ (gI z 42).toInt ≤ 1 := ht.1 42
      intro K_357 hK_401
      refine ⟨fun hc => absurd hc (by decide), fun _ => ?_⟩
      refine hK_401 ((3 : Int64)) ?_
      have g_434 : (3 : Int64).toInt = 3 := by decide
      have f_435 : 0 ≤ (gI z_356 36).toInt ∧ (gI z_356 36).toInt ≤ 300 := tz_356.1 36
      have q_436 := (o_397.fi 36 (by decide))
      refine s_X9_number ((3 : Int64)) z_356 _ tz_356 (by omega) (fun r_402 z_403 tz_403 o_438 hp_437 => ?_)
      have oz_403 : Same [34, 37, 38, 39, 41, 42] [24] z z_403 := oz_356.tr o_438 (by decide) (by decide)
      have f_439 : 0 ≤ (gI z_403 38).toInt ∧ (gI z_403 38).toInt ≤ 300 := tz_403.1 38
      have f_440 : 0 ≤ (gI z_403 42).toInt ∧ (gI z_403 42).toInt ≤ 1 := tz_403.1 42
      intro K_404 hK_441
      refine ⟨fun hc => absurd hc (by decide), fun _ => ?_⟩
      have g_442 : (102 : Int32).toInt = 102 := by decide
      have g_443 : (114 : Int32).toInt = 114 := by decide
      have g_444 : (111 : Int32).toInt = 111 := by decide
      have g_445 : (109 : Int32).toInt = 109 := by decide
      have g_446 : (0 : Int32).toInt = 0 := by decide
      have g_447 : (0 : Int32).toInt = 0 := by decide
      refine s_X9_isWord ((102 : Int32)) ((114 : Int32)) ((111 : Int32)) ((109 : Int32)) ((0 : Int32)) ((0 : Int32)) z_403 _ tz_403  (fun r_426 hp_448 => ?_)
      rcases hp_448 with ⟨er_426, hp_448⟩ | ⟨er_426, hp_448⟩
      · subst er_426
        have g_449 : (1 : Int32).toInt = 1 := by decide
        have f_450 : 0 ≤ (gI z_403 36).toInt ∧ (gI z_403 36).toInt ≤ 300 := tz_403.1 36
        have q_451 := ((o_438.fi 36 (by decide))).trans (o_397.fi 36 (by decide))
        refine s_X9_must ((1 : Int32)) z_403 _ tz_403 (by omega) (fun z_427 tz_427 o_453 hp_452 => ?_)
        have oz_427 : Same [34, 37, 38, 39, 41, 42] [24] z z_427 := oz_403.tr o_453 (by decide) (by decide)
        have f_454 : 0 ≤ (gI z_427 38).toInt ∧ (gI z_427 38).toInt ≤ 300 := tz_427.1 38
        have f_455 : 0 ≤ (gI z_427 42).toInt ∧ (gI z_427 42).toInt ≤ 1 := tz_427.1 42
        have g_456 : (23 : Int64).toInt = 23 := by decide
        have f_457 : 0 ≤ (gI z_427 36).toInt ∧ (gI z_427 36).toInt ≤ 300 := tz_427.1 36
        have q_458 := (((o_453.fi 36 (by decide))).trans (o_438.fi 36 (by decide))).trans (o_397.fi 36 (by decide))
        refine s_X9_number ((23 : Int64)) z_427 _ tz_427 (by omega) (fun r_428 z_429 tz_429 o_460 hp_459 => ?_)
        have oz_429 : Same [34, 37, 38, 39, 41, 42] [24] z z_429 := oz_427.tr o_460 (by decide) (by decide)
        have f_461 : 0 ≤ (gI z_429 38).toInt ∧ (gI z_429 38).toInt ≤ 300 := tz_429.1 38
        have f_462 : 0 ≤ (gI z_429 42).toInt ∧ (gI z_429 42).toInt ≤ 1 := tz_429.1 42
        have g_463 : (116 : Int32).toInt = 116 := by decide
        have g_464 : (111 : Int32).toInt = 111 := by decide
        have g_465 : (0 : Int32).toInt = 0 := by decide
        have g_466 : (0 : Int32).toInt = 0 := by decide
        have g_467 : (0 : Int32).toInt = 0 := by decide
        have g_468 : (0 : Int32).toInt = 0 := by decide
        refine s_X9_isWord ((116 : Int32)) ((111 : Int32)) ((0 : Int32)) ((0 : Int32)) ((0 : Int32)) ((0 : Int32)) z_429 _ tz_429  (fun r_430 hp_469 => ?_)
        rcases hp_469 with ⟨er_430, hp_469⟩ | ⟨er_430, hp_469⟩
        · subst er_430
          have g_470 : (1 : Int32).toInt = 1 := by decide
          have f_471 : 0 ≤ (gI z_429 36).toInt ∧ (gI z_429 36).toInt ≤ 300 := tz_429.1 36
          have q_472 := ((((o_460.fi 36 (by decide))).trans (o_453.fi 36 (by decide))).trans (o_438.fi 36 (by decide))).trans (o_397.fi 36 (by decide))
          refine s_X9_must ((1 : Int32)) z_429 _ tz_429 (by omega) (fun z_431 tz_431 o_474 hp_473 => ?_)
          have oz_431 : Same [34, 37, 38, 39, 41, 42] [24] z z_431 := oz_429.tr o_474 (by decide) (by decide)
          have f_475 : 0 ≤ (gI z_431 38).toInt ∧ (gI z_431 38).toInt ≤ 300 := tz_431.1 38
          have f_476 : 0 ≤ (gI z_431 42).toInt ∧ (gI z_431 42).toInt ≤ 1 := tz_431.1 42
          have g_477 : (23 : Int64).toInt = 23 := by decide
          have f_478 : 0 ≤ (gI z_431 36).toInt ∧ (gI z_431 36).toInt ≤ 300 := tz_431.1 36
          have q_479 := (((((o_474.fi 36 (by decide))).trans (o_460.fi 36 (by decide))).trans (o_453.fi 36 (by decide))).trans (o_438.fi 36 (by decide))).trans (o_397.fi 36 (by decide))
          refine s_X9_number ((23 : Int64)) z_431 _ tz_431 (by omega) (fun r_432 z_433 tz_433 o_481 hp_480 => ?_)
          have oz_433 : Same [34, 37, 38, 39, 41, 42] [24] z z_433 := oz_431.tr o_481 (by decide) (by decide)
          have f_482 : 0 ≤ (gI z_433 38).toInt ∧ (gI z_433 38).toInt ≤ 300 := tz_433.1 38
          have f_483 : 0 ≤ (gI z_433 42).toInt ∧ (gI z_433 42).toInt ≤ 1 := tz_433.1 42
          refine hK_441 r_428 r_432 z_433 ?_
          refine ⟨fun c_484 => ?_, fun c_484 => ?_⟩
          · skip
            have i_490 := i_eq rfl (show (0 : Int32).toInt = 0 by decide) c_484
            have f_491 : 0 ≤ (gI z_433 34).toInt ∧ (gI z_433 34).toInt ≤ 20 := tz_433.1 34
            have q_492 := ((((((o_481.fi 34 (by decide))).trans (o_474.fi 34 (by decide))).trans (o_460.fi 34 (by decide))).trans (o_453.fi 34 (by decide))).trans (o_438.fi 34 (by decide))).trans (o_397.fi 34 (by decide))
            refine ⟨vin (a_mul (show (4 : Int32).toInt = 4 by decide) rfl (by omega) (by omega)) (by omega) (by omega), ?_⟩
            intro z_485 ez_485
            have tz_485 : TM z_485 := by rw [ez_485]; exact Ty_wR tz_433 trivial
            have oz_485 : Same [34, 37, 38, 39, 41, 42] [24] z z_485 := oz_433.r (by decide) ez_485
            have f_493 : 0 ≤ (gI z_485 34).toInt ∧ (gI z_485 34).toInt ≤ 20 := tz_485.1 34
            have q_494 := (((((((show (gI z_485 34).toInt = (gI z_433 34).toInt by rw [ez_485]; rfl)).trans (o_481.fi 34 (by decide))).trans (o_474.fi 34 (by decide))).trans (o_460.fi 34 (by decide))).trans (o_453.fi 34 (by decide))).trans (o_438.fi 34 (by decide))).trans (o_397.fi 34 (by decide))
            refine ⟨vin (a_add (a_mul (show (4 : Int32).toInt = 4 by decide) rfl (by omega) (by omega)) (show (1 : Int32).toInt = 1 by decide) (by omega) (by omega)) (by omega) (by omega), ?_⟩
            intro z_486 ez_486
            have tz_486 : TM z_486 := by rw [ez_486]; exact Ty_wR tz_485 trivial
            have oz_486 : Same [34, 37, 38, 39, 41, 42] [24] z z_486 := oz_485.r (by decide) ez_486
            have f_495 : 0 ≤ (gI z_486 34).toInt ∧ (gI z_486 34).toInt ≤ 20 := tz_486.1 34
            have q_496 := ((((((((show (gI z_486 34).toInt = (gI z_485 34).toInt by rw [ez_486]; rfl)).trans (show (gI z_485 34).toInt = (gI z_433 34).toInt by rw [ez_485]; rfl)).trans (o_481.fi 34 (by decide))).trans (o_474.fi 34 (by decide))).trans (o_460.fi 34 (by decide))).trans (o_453.fi 34 (by decide))).trans (o_438.fi 34 (by decide))).trans (o_397.fi 34 (by decide))
            refine ⟨vin (a_add (a_mul (show (4 : Int32).toInt = 4 by decide) rfl (by omega) (by omega)) (show (2 : Int32).toInt = 2 by decide) (by omega) (by omega)) (by omega) (by omega), ?_⟩
            intro z_487 ez_487
            have tz_487 : TM z_487 := by rw [ez_487]; exact Ty_wR tz_486 trivial
            have oz_487 : Same [34, 37, 38, 39, 41, 42] [24] z z_487 := oz_486.r (by decide) ez_487
            have f_497 : 0 ≤ (gI z_487 34).toInt ∧ (gI z_487 34).toInt ≤ 20 := tz_487.1 34
            have q_498 := (((((((((show (gI z_487 34).toInt = (gI z_486 34).toInt by rw [ez_487]; rfl)).trans (show (gI z_486 34).toInt = (gI z_485 34).toInt by rw [ez_486]; rfl)).trans (show (gI z_485 34).toInt = (gI z_433 34).toInt by rw [ez_485]; rfl)).trans (o_481.fi 34 (by decide))).trans (o_474.fi 34 (by decide))).trans (o_460.fi 34 (by decide))).trans (o_453.fi 34 (by decide))).trans (o_438.fi 34 (by decide))).trans (o_397.fi 34 (by decide))
            refine ⟨vin (a_add (a_mul (show (4 : Int32).toInt = 4 by decide) rfl (by omega) (by omega)) (show (3 : Int32).toInt = 3 by decide) (by omega) (by omega)) (by omega) (by omega), ?_⟩
            intro z_488 ez_488
            have tz_488 : TM z_488 := by rw [ez_488]; exact Ty_wR tz_487 trivial
            have oz_488 : Same [34, 37, 38, 39, 41, 42] [24] z z_488 := oz_487.r (by decide) ez_488
            intro z_489 ez_489
            have f_499 : 0 ≤ (gI z_488 34).toInt ∧ (gI z_488 34).toInt ≤ 20 := tz_488.1 34
            have q_500 := ((((((((((show (gI z_488 34).toInt = (gI z_487 34).toInt by rw [ez_488]; rfl)).trans (show (gI z_487 34).toInt = (gI z_486 34).toInt by rw [ez_487]; rfl)).trans (show (gI z_486 34).toInt = (gI z_485 34).toInt by rw [ez_486]; rfl)).trans (show (gI z_485 34).toInt = (gI z_433 34).toInt by rw [ez_485]; rfl)).trans (o_481.fi 34 (by decide))).trans (o_474.fi 34 (by decide))).trans (o_460.fi 34 (by decide))).trans (o_453.fi 34 (by decide))).trans (o_438.fi 34 (by decide))).trans (o_397.fi 34 (by decide))
            have tz_489 : TM z_489 := by rw [ez_489]; exact Ty_wI tz_488 (show 0 ≤ ((gI z_488 34) + (1 : Int32)).toInt ∧ ((gI z_488 34) + (1 : Int32)).toInt ≤ 20 from by rw [(a_add rfl (show (1 : Int32).toInt = 1 by decide) (by omega) (by omega))]; omega)
            have oz_489 : Same [34, 37, 38, 39, 41, 42] [24] z z_489 := oz_488.i (by decide) ez_489
            have f_501 : 0 ≤ (gI z_489 38).toInt ∧ (gI z_489 38).toInt ≤ 300 := tz_489.1 38
            have q_502 := (((((show (gI z_489 38).toInt = (gI z_488 38).toInt by rw [ez_489]; rfl)).trans (show (gI z_488 38).toInt = (gI z_487 38).toInt by rw [ez_488]; rfl)).trans (show (gI z_487 38).toInt = (gI z_486 38).toInt by rw [ez_487]; rfl)).trans (show (gI z_486 38).toInt = (gI z_485 38).toInt by rw [ez_486]; rfl)).trans (show (gI z_485 38).toInt = (gI z_433 38).toInt by rw [ez_485]; rfl)
            have f_503 : 0 ≤ (gI z_489 42).toInt ∧ (gI z_489 42).toInt ≤ 1 := tz_489.1 42
            have q_504 := (((((show (gI z_489 42).toInt = (gI z_488 42).toInt by rw [ez_489]; rfl)).trans (show (gI z_488 42).toInt = (gI z_487 42).toInt by rw [ez_488]; rfl)).trans (show (gI z_487 42).toInt = (gI z_486 42).toInt by rw [ez_487]; rfl)).trans (show (gI z_486 42).toInt = (gI z_485 42).toInt by rw [ez_486]; rfl)).trans (show (gI z_485 42).toInt = (gI z_433 42).toInt by rw [ez_485]; rfl)
            have f_505 : 0 ≤ (gI z_489 34).toInt ∧ (gI z_489 34).toInt ≤ 20 := tz_489.1 34
            have q_506 := (show (gI z_489 34).toInt = ((gI z_488 34) + (1 : Int32)).toInt by rw [ez_489]; rfl)
            have q_507 : ((gI z_488 34) + (1 : Int32)).toInt = ((gI z_488 34).toInt + (1)) := (a_add rfl (show (1 : Int32).toInt = 1 by decide) (by omega) (by omega))
            exact hk z_489 tz_489 oz_489 (by omega)
          · skip
            have i_508 := i_ne rfl (show (0 : Int32).toInt = 0 by decide) c_484
            have f_509 : 0 ≤ (gI z_433 34).toInt ∧ (gI z_433 34).toInt ≤ 20 := tz_433.1 34
            have q_510 := ((((((o_481.fi 34 (by decide))).trans (o_474.fi 34 (by decide))).trans (o_460.fi 34 (by decide))).trans (o_453.fi 34 (by decide))).trans (o_438.fi 34 (by decide))).trans (o_397.fi 34 (by decide))
            exact hk z_433 tz_433 oz_433 (by omega)
        · subst er_430
          have g_511 : (0 : Int32).toInt = 0 := by decide
          have f_512 : 0 ≤ (gI z_429 36).toInt ∧ (gI z_429 36).toInt ≤ 300 := tz_429.1 36
          have q_513 := ((((o_460.fi 36 (by decide))).trans (o_453.fi 36 (by decide))).trans (o_438.fi 36 (by decide))).trans (o_397.fi 36 (by decide))
          refine s_X9_must ((0 : Int32)) z_429 _ tz_429 (by omega) (fun z_431 tz_431 o_515 hp_514 => ?_)
          have oz_431 : Same [34, 37, 38, 39, 41, 42] [24] z z_431 := oz_429.tr o_515 (by decide) (by decide)
          have f_516 : 0 ≤ (gI z_431 38).toInt ∧ (gI z_431 38).toInt ≤ 300 := tz_431.1 38
          have f_517 : 0 ≤ (gI z_431 42).toInt ∧ (gI z_431 42).toInt ≤ 1 := tz_431.1 42
          have g_518 : (23 : Int64).toInt = 23 := by decide
          have f_519 : 0 ≤ (gI z_431 36).toInt ∧ (gI z_431 36).toInt ≤ 300 := tz_431.1 36
          have q_520 := (((((o_515.fi 36 (by decide))).trans (o_460.fi 36 (by decide))).trans (o_453.fi 36 (by decide))).trans (o_438.fi 36 (by decide))).trans (o_397.fi 36 (by decide))
          refine s_X9_number ((23 : Int64)) z_431 _ tz_431 (by omega) (fun r_432 z_433 tz_433 o_522 hp_521 => ?_)
          have oz_433 : Same [34, 37, 38, 39, 41, 42] [24] z z_433 := oz_431.tr o_522 (by decide) (by decide)
          have f_523 : 0 ≤ (gI z_433 38).toInt ∧ (gI z_433 38).toInt ≤ 300 := tz_433.1 38
          have f_524 : 0 ≤ (gI z_433 42).toInt ∧ (gI z_433 42).toInt ≤ 1 := tz_433.1 42
          refine hK_441 r_428 r_432 z_433 ?_
          refine ⟨fun c_525 => ?_, fun c_525 => ?_⟩
          · skip
            have i_531 := i_eq rfl (show (0 : Int32).toInt = 0 by decide) c_525
            have f_532 : 0 ≤ (gI z_433 34).toInt ∧ (gI z_433 34).toInt ≤ 20 := tz_433.1 34
            have q_533 := ((((((o_522.fi 34 (by decide))).trans (o_515.fi 34 (by decide))).trans (o_460.fi 34 (by decide))).trans (o_453.fi 34 (by decide))).trans (o_438.fi 34 (by decide))).trans (o_397.fi 34 (by decide))
            refine ⟨vin (a_mul (show (4 : Int32).toInt = 4 by decide) rfl (by omega) (by omega)) (by omega) (by omega), ?_⟩
            intro z_526 ez_526
            have tz_526 : TM z_526 := by rw [ez_526]; exact Ty_wR tz_433 trivial
            have oz_526 : Same [34, 37, 38, 39, 41, 42] [24] z z_526 := oz_433.r (by decide) ez_526
            have f_534 : 0 ≤ (gI z_526 34).toInt ∧ (gI z_526 34).toInt ≤ 20 := tz_526.1 34
            have q_535 := (((((((show (gI z_526 34).toInt = (gI z_433 34).toInt by rw [ez_526]; rfl)).trans (o_522.fi 34 (by decide))).trans (o_515.fi 34 (by decide))).trans (o_460.fi 34 (by decide))).trans (o_453.fi 34 (by decide))).trans (o_438.fi 34 (by decide))).trans (o_397.fi 34 (by decide))
            refine ⟨vin (a_add (a_mul (show (4 : Int32).toInt = 4 by decide) rfl (by omega) (by omega)) (show (1 : Int32).toInt = 1 by decide) (by omega) (by omega)) (by omega) (by omega), ?_⟩
            intro z_527 ez_527
            have tz_527 : TM z_527 := by rw [ez_527]; exact Ty_wR tz_526 trivial
            have oz_527 : Same [34, 37, 38, 39, 41, 42] [24] z z_527 := oz_526.r (by decide) ez_527
            have f_536 : 0 ≤ (gI z_527 34).toInt ∧ (gI z_527 34).toInt ≤ 20 := tz_527.1 34
            have q_537 := ((((((((show (gI z_527 34).toInt = (gI z_526 34).toInt by rw [ez_527]; rfl)).trans (show (gI z_526 34).toInt = (gI z_433 34).toInt by rw [ez_526]; rfl)).trans (o_522.fi 34 (by decide))).trans (o_515.fi 34 (by decide))).trans (o_460.fi 34 (by decide))).trans (o_453.fi 34 (by decide))).trans (o_438.fi 34 (by decide))).trans (o_397.fi 34 (by decide))
            refine ⟨vin (a_add (a_mul (show (4 : Int32).toInt = 4 by decide) rfl (by omega) (by omega)) (show (2 : Int32).toInt = 2 by decide) (by omega) (by omega)) (by omega) (by omega), ?_⟩
            intro z_528 ez_528
            have tz_528 : TM z_528 := by rw [ez_528]; exact Ty_wR tz_527 trivial
            have oz_528 : Same [34, 37, 38, 39, 41, 42] [24] z z_528 := oz_527.r (by decide) ez_528
            have f_538 : 0 ≤ (gI z_528 34).toInt ∧ (gI z_528 34).toInt ≤ 20 := tz_528.1 34
            have q_539 := (((((((((show (gI z_528 34).toInt = (gI z_527 34).toInt by rw [ez_528]; rfl)).trans (show (gI z_527 34).toInt = (gI z_526 34).toInt by rw [ez_527]; rfl)).trans (show (gI z_526 34).toInt = (gI z_433 34).toInt by rw [ez_526]; rfl)).trans (o_522.fi 34 (by decide))).trans (o_515.fi 34 (by decide))).trans (o_460.fi 34 (by decide))).trans (o_453.fi 34 (by decide))).trans (o_438.fi 34 (by decide))).trans (o_397.fi 34 (by decide))
            refine ⟨vin (a_add (a_mul (show (4 : Int32).toInt = 4 by decide) rfl (by omega) (by omega)) (show (3 : Int32).toInt = 3 by decide) (by omega) (by omega)) (by omega) (by omega), ?_⟩
            intro z_529 ez_529
            have tz_529 : TM z_529 := by rw [ez_529]; exact Ty_wR tz_528 trivial
            have oz_529 : Same [34, 37, 38, 39, 41, 42] [24] z z_529 := oz_528.r (by decide) ez_529
            intro z_530 ez_530
            have f_540 : 0 ≤ (gI z_529 34).toInt ∧ (gI z_529 34).toInt ≤ 20 := tz_529.1 34
            have q_541 := ((((((((((show (gI z_529 34).toInt = (gI z_528 34).toInt by rw [ez_529]; rfl)).trans (show (gI z_528 34).toInt = (gI z_527 34).toInt by rw [ez_528]; rfl)).trans (show (gI z_527 34).toInt = (gI z_526 34).toInt by rw [ez_527]; rfl)).trans (show (gI z_526 34).toInt = (gI z_433 34).toInt by rw [ez_526]; rfl)).trans (o_522.fi 34 (by decide))).trans (o_515.fi 34 (by decide))).trans (o_460.fi 34 (by decide))).trans (o_453.fi 34 (by decide))).trans (o_438.fi 34 (by decide))).trans (o_397.fi 34 (by decide))
            have tz_530 : TM z_530 := by rw [ez_530]; exact Ty_wI tz_529 (show 0 ≤ ((gI z_529 34) + (1 : Int32)).toInt ∧ ((gI z_529 34) + (1 : Int32)).toInt ≤ 20 from by rw [(a_add rfl (show (1 : Int32).toInt = 1 by decide) (by omega) (by omega))]; omega)
            have oz_530 : Same [34, 37, 38, 39, 41, 42] [24] z z_530 := oz_529.i (by decide) ez_530
            have f_542 : 0 ≤ (gI z_530 38).toInt ∧ (gI z_530 38).toInt ≤ 300 := tz_530.1 38
            have q_543 := (((((show (gI z_530 38).toInt = (gI z_529 38).toInt by rw [ez_530]; rfl)).trans (show (gI z_529 38).toInt = (gI z_528 38).toInt by rw [ez_529]; rfl)).trans (show (gI z_528 38).toInt = (gI z_527 38).toInt by rw [ez_528]; rfl)).trans (show (gI z_527 38).toInt = (gI z_526 38).toInt by rw [ez_527]; rfl)).trans (show (gI z_526 38).toInt = (gI z_433 38).toInt by rw [ez_526]; rfl)
            have f_544 : 0 ≤ (gI z_530 42).toInt ∧ (gI z_530 42).toInt ≤ 1 := tz_530.1 42
            have q_545 := (((((show (gI z_530 42).toInt = (gI z_529 42).toInt by rw [ez_530]; rfl)).trans (show (gI z_529 42).toInt = (gI z_528 42).toInt by rw [ez_529]; rfl)).trans (show (gI z_528 42).toInt = (gI z_527 42).toInt by rw [ez_528]; rfl)).trans (show (gI z_527 42).toInt = (gI z_526 42).toInt by rw [ez_527]; rfl)).trans (show (gI z_526 42).toInt = (gI z_433 42).toInt by rw [ez_526]; rfl)
            have f_546 : 0 ≤ (gI z_530 34).toInt ∧ (gI z_530 34).toInt ≤ 20 := tz_530.1 34
            have q_547 := (show (gI z_530 34).toInt = ((gI z_529 34) + (1 : Int32)).toInt by rw [ez_530]; rfl)
            have q_548 : ((gI z_529 34) + (1 : Int32)).toInt = ((gI z_529 34).toInt + (1)) := (a_add rfl (show (1 : Int32).toInt = 1 by decide) (by omega) (by omega))
            exact hk z_530 tz_530 oz_530 (by omega)
          · skip
            have i_549 := i_ne rfl (show (0 : Int32).toInt = 0 by decide) c_525
            have f_550 : 0 ≤ (gI z_433 34).toInt ∧ (gI z_433 34).toInt ≤ 20 := tz_433.1 34
            have q_551 := ((((((o_522.fi 34 (by decide))).trans (o_515.fi 34 (by decide))).trans (o_460.fi 34 (by decide))).trans (o_453.fi 34 (by decide))).trans (o_438.fi 34 (by decide))).trans (o_397.fi 34 (by decide))
            exact hk z_433 tz_433 oz_433 (by omega)
      · subst er_426
        have g_552 : (0 : Int32).toInt = 0 := by decide
        have f_553 : 0 ≤ (gI z_403 36).toInt ∧ (gI z_403 36).toInt ≤ 300 := tz_403.1 36
        have q_554 := ((o_438.fi 36 (by decide))).trans (o_397.fi 36 (by decide))
        refine s_X9_must ((0 : Int32)) z_403 _ tz_403 (by omega) (fun z_427 tz_427 o_556 hp_555 => ?_)
        have oz_427 : Same [34, 37, 38, 39, 41, 42] [24] z z_427 := oz_403.tr o_556 (by decide) (by decide)
        have f_557 : 0 ≤ (gI z_427 38).toInt ∧ (gI z_427 38).toInt ≤ 300 := tz_427.1 38
        have f_558 : 0 ≤ (gI z_427 42).toInt ∧ (gI z_427 42).toInt ≤ 1 := tz_427.1 42
        have g_559 : (23 : Int64).toInt = 23 := by decide
        have f_560 : 0 ≤ (gI z_427 36).toInt ∧ (gI z_427 36).toInt ≤ 300 := tz_427.1 36
        have q_561 := (((o_556.fi 36 (by decide))).trans (o_438.fi 36 (by decide))).trans (o_397.fi 36 (by decide))
        refine s_X9_number ((23 : Int64)) z_427 _ tz_427 (by omega) (fun r_428 z_429 tz_429 o_563 hp_562 => ?_)
        have oz_429 : Same [34, 37, 38, 39, 41, 42] [24] z z_429 := oz_427.tr o_563 (by decide) (by decide)
        have f_564 : 0 ≤ (gI z_429 38).toInt ∧ (gI z_429 38).toInt ≤ 300 := tz_429.1 38
        have f_565 : 0 ≤ (gI z_429 42).toInt ∧ (gI z_429 42).toInt ≤ 1 := tz_429.1 42
        have g_566 : (116 : Int32).toInt = 116 := by decide
        have g_567 : (111 : Int32).toInt = 111 := by decide
        have g_568 : (0 : Int32).toInt = 0 := by decide
        have g_569 : (0 : Int32).toInt = 0 := by decide
        have g_570 : (0 : Int32).toInt = 0 := by decide
        have g_571 : (0 : Int32).toInt = 0 := by decide
        refine s_X9_isWord ((116 : Int32)) ((111 : Int32)) ((0 : Int32)) ((0 : Int32)) ((0 : Int32)) ((0 : Int32)) z_429 _ tz_429  (fun r_430 hp_572 => ?_)
        rcases hp_572 with ⟨er_430, hp_572⟩ | ⟨er_430, hp_572⟩
        · subst er_430
          have g_573 : (1 : Int32).toInt = 1 := by decide
          have f_574 : 0 ≤ (gI z_429 36).toInt ∧ (gI z_429 36).toInt ≤ 300 := tz_429.1 36
          have q_575 := ((((o_563.fi 36 (by decide))).trans (o_556.fi 36 (by decide))).trans (o_438.fi 36 (by decide))).trans (o_397.fi 36 (by decide))
          refine s_X9_must ((1 : Int32)) z_429 _ tz_429 (by omega) (fun z_431 tz_431 o_577 hp_576 => ?_)
          have oz_431 : Same [34, 37, 38, 39, 41, 42] [24] z z_431 := oz_429.tr o_577 (by decide) (by decide)
          have f_578 : 0 ≤ (gI z_431 38).toInt ∧ (gI z_431 38).toInt ≤ 300 := tz_431.1 38
          have f_579 : 0 ≤ (gI z_431 42).toInt ∧ (gI z_431 42).toInt ≤ 1 := tz_431.1 42
          have g_580 : (23 : Int64).toInt = 23 := by decide
          have f_581 : 0 ≤ (gI z_431 36).toInt ∧ (gI z_431 36).toInt ≤ 300 := tz_431.1 36
          have q_582 := (((((o_577.fi 36 (by decide))).trans (o_563.fi 36 (by decide))).trans (o_556.fi 36 (by decide))).trans (o_438.fi 36 (by decide))).trans (o_397.fi 36 (by decide))
          refine s_X9_number ((23 : Int64)) z_431 _ tz_431 (by omega) (fun r_432 z_433 tz_433 o_584 hp_583 => ?_)
          have oz_433 : Same [34, 37, 38, 39, 41, 42] [24] z z_433 := oz_431.tr o_584 (by decide) (by decide)
          have f_585 : 0 ≤ (gI z_433 38).toInt ∧ (gI z_433 38).toInt ≤ 300 := tz_433.1 38
          have f_586 : 0 ≤ (gI z_433 42).toInt ∧ (gI z_433 42).toInt ≤ 1 := tz_433.1 42
          refine hK_441 r_428 r_432 z_433 ?_
          refine ⟨fun c_587 => ?_, fun c_587 => ?_⟩
          · skip
            have i_593 := i_eq rfl (show (0 : Int32).toInt = 0 by decide) c_587
            have f_594 : 0 ≤ (gI z_433 34).toInt ∧ (gI z_433 34).toInt ≤ 20 := tz_433.1 34
            have q_595 := ((((((o_584.fi 34 (by decide))).trans (o_577.fi 34 (by decide))).trans (o_563.fi 34 (by decide))).trans (o_556.fi 34 (by decide))).trans (o_438.fi 34 (by decide))).trans (o_397.fi 34 (by decide))
            refine ⟨vin (a_mul (show (4 : Int32).toInt = 4 by decide) rfl (by omega) (by omega)) (by omega) (by omega), ?_⟩
            intro z_588 ez_588
            have tz_588 : TM z_588 := by rw [ez_588]; exact Ty_wR tz_433 trivial
            have oz_588 : Same [34, 37, 38, 39, 41, 42] [24] z z_588 := oz_433.r (by decide) ez_588
            have f_596 : 0 ≤ (gI z_588 34).toInt ∧ (gI z_588 34).toInt ≤ 20 := tz_588.1 34
            have q_597 := (((((((show (gI z_588 34).toInt = (gI z_433 34).toInt by rw [ez_588]; rfl)).trans (o_584.fi 34 (by decide))).trans (o_577.fi 34 (by decide))).trans (o_563.fi 34 (by decide))).trans (o_556.fi 34 (by decide))).trans (o_438.fi 34 (by decide))).trans (o_397.fi 34 (by decide))
            refine ⟨vin (a_add (a_mul (show (4 : Int32).toInt = 4 by decide) rfl (by omega) (by omega)) (show (1 : Int32).toInt = 1 by decide) (by omega) (by omega)) (by omega) (by omega), ?_⟩
            intro z_589 ez_589
            have tz_589 : TM z_589 := by rw [ez_589]; exact Ty_wR tz_588 trivial
            have oz_589 : Same [34, 37, 38, 39, 41, 42] [24] z z_589 := oz_588.r (by decide) ez_589
            have f_598 : 0 ≤ (gI z_589 34).toInt ∧ (gI z_589 34).toInt ≤ 20 := tz_589.1 34
            have q_599 := ((((((((show (gI z_589 34).toInt = (gI z_588 34).toInt by rw [ez_589]; rfl)).trans (show (gI z_588 34).toInt = (gI z_433 34).toInt by rw [ez_588]; rfl)).trans (o_584.fi 34 (by decide))).trans (o_577.fi 34 (by decide))).trans (o_563.fi 34 (by decide))).trans (o_556.fi 34 (by decide))).trans (o_438.fi 34 (by decide))).trans (o_397.fi 34 (by decide))
            refine ⟨vin (a_add (a_mul (show (4 : Int32).toInt = 4 by decide) rfl (by omega) (by omega)) (show (2 : Int32).toInt = 2 by decide) (by omega) (by omega)) (by omega) (by omega), ?_⟩
            intro z_590 ez_590
            have tz_590 : TM z_590 := by rw [ez_590]; exact Ty_wR tz_589 trivial
            have oz_590 : Same [34, 37, 38, 39, 41, 42] [24] z z_590 := oz_589.r (by decide) ez_590
            have f_600 : 0 ≤ (gI z_590 34).toInt ∧ (gI z_590 34).toInt ≤ 20 := tz_590.1 34
            have q_601 := (((((((((show (gI z_590 34).toInt = (gI z_589 34).toInt by rw [ez_590]; rfl)).trans (show (gI z_589 34).toInt = (gI z_588 34).toInt by rw [ez_589]; rfl)).trans (show (gI z_588 34).toInt = (gI z_433 34).toInt by rw [ez_588]; rfl)).trans (o_584.fi 34 (by decide))).trans (o_577.fi 34 (by decide))).trans (o_563.fi 34 (by decide))).trans (o_556.fi 34 (by decide))).trans (o_438.fi 34 (by decide))).trans (o_397.fi 34 (by decide))
            refine ⟨vin (a_add (a_mul (show (4 : Int32).toInt = 4 by decide) rfl (by omega) (by omega)) (show (3 : Int32).toInt = 3 by decide) (by omega) (by omega)) (by omega) (by omega), ?_⟩
            intro z_591 ez_591
            have tz_591 : TM z_591 := by rw [ez_591]; exact Ty_wR tz_590 trivial
            have oz_591 : Same [34, 37, 38, 39, 41, 42] [24] z z_591 := oz_590.r (by decide) ez_591
            intro z_592 ez_592
            have f_602 : 0 ≤ (gI z_591 34).toInt ∧ (gI z_591 34).toInt ≤ 20 := tz_591.1 34
            have q_603 := ((((((((((show (gI z_591 34).toInt = (gI z_590 34).toInt by rw [ez_591]; rfl)).trans (show (gI z_590 34).toInt = (gI z_589 34).toInt by rw [ez_590]; rfl)).trans (show (gI z_589 34).toInt = (gI z_588 34).toInt by rw [ez_589]; rfl)).trans (show (gI z_588 34).toInt = (gI z_433 34).toInt by rw [ez_588]; rfl)).trans (o_584.fi 34 (by decide))).trans (o_577.fi 34 (by decide))).trans (o_563.fi 34 (by decide))).trans (o_556.fi 34 (by decide))).trans (o_438.fi 34 (by decide))).trans (o_397.fi 34 (by decide))
            have tz_592 : TM z_592 := by rw [ez_592]; exact Ty_wI tz_591 (show 0 ≤ ((gI z_591 34) + (1 : Int32)).toInt ∧ ((gI z_591 34) + (1 : Int32)).toInt ≤ 20 from by rw [(a_add rfl (show (1 : Int32).toInt = 1 by decide) (by omega) (by omega))]; omega)
            have oz_592 : Same [34, 37, 38, 39, 41, 42] [24] z z_592 := oz_591.i (by decide) ez_592
            have f_604 : 0 ≤ (gI z_592 38).toInt ∧ (gI z_592 38).toInt ≤ 300 := tz_592.1 38
            have q_605 := (((((show (gI z_592 38).toInt = (gI z_591 38).toInt by rw [ez_592]; rfl)).trans (show (gI z_591 38).toInt = (gI z_590 38).toInt by rw [ez_591]; rfl)).trans (show (gI z_590 38).toInt = (gI z_589 38).toInt by rw [ez_590]; rfl)).trans (show (gI z_589 38).toInt = (gI z_588 38).toInt by rw [ez_589]; rfl)).trans (show (gI z_588 38).toInt = (gI z_433 38).toInt by rw [ez_588]; rfl)
            have f_606 : 0 ≤ (gI z_592 42).toInt ∧ (gI z_592 42).toInt ≤ 1 := tz_592.1 42
            have q_607 := (((((show (gI z_592 42).toInt = (gI z_591 42).toInt by rw [ez_592]; rfl)).trans (show (gI z_591 42).toInt = (gI z_590 42).toInt by rw [ez_591]; rfl)).trans (show (gI z_590 42).toInt = (gI z_589 42).toInt by rw [ez_590]; rfl)).trans (show (gI z_589 42).toInt = (gI z_588 42).toInt by rw [ez_589]; rfl)).trans (show (gI z_588 42).toInt = (gI z_433 42).toInt by rw [ez_588]; rfl)
            have f_608 : 0 ≤ (gI z_592 34).toInt ∧ (gI z_592 34).toInt ≤ 20 := tz_592.1 34
            have q_609 := (show (gI z_592 34).toInt = ((gI z_591 34) + (1 : Int32)).toInt by rw [ez_592]; rfl)
            have q_610 : ((gI z_591 34) + (1 : Int32)).toInt = ((gI z_591 34).toInt + (1)) := (a_add rfl (show (1 : Int32).toInt = 1 by decide) (by omega) (by omega))
            exact hk z_592 tz_592 oz_592 (by omega)
          · skip
            have i_611 := i_ne rfl (show (0 : Int32).toInt = 0 by decide) c_587
            have f_612 : 0 ≤ (gI z_433 34).toInt ∧ (gI z_433 34).toInt ≤ 20 := tz_433.1 34
            have q_613 := ((((((o_584.fi 34 (by decide))).trans (o_577.fi 34 (by decide))).trans (o_563.fi 34 (by decide))).trans (o_556.fi 34 (by decide))).trans (o_438.fi 34 (by decide))).trans (o_397.fi 34 (by decide))
            exact hk z_433 tz_433 oz_433 (by omega)
        · subst er_430
          have g_614 : (0 : Int32).toInt = 0 := by decide
          have f_615 : 0 ≤ (gI z_429 36).toInt ∧ (gI z_429 36).toInt ≤ 300 := tz_429.1 36
          have q_616 := ((((o_563.fi 36 (by decide))).trans (o_556.fi 36 (by decide))).trans (o_438.fi 36 (by decide))).trans (o_397.fi 36 (by decide))
          refine s_X9_must ((0 : Int32)) z_429 _ tz_429 (by omega) (fun z_431 tz_431 o_618 hp_617 => ?_)
          have oz_431 : Same [34, 37, 38, 39, 41, 42] [24] z z_431 := oz_429.tr o_618 (by decide) (by decide)
          have f_619 : 0 ≤ (gI z_431 38).toInt ∧ (gI z_431 38).toInt ≤ 300 := tz_431.1 38
          have f_620 : 0 ≤ (gI z_431 42).toInt ∧ (gI z_431 42).toInt ≤ 1 := tz_431.1 42
          have g_621 : (23 : Int64).toInt = 23 := by decide
          have f_622 : 0 ≤ (gI z_431 36).toInt ∧ (gI z_431 36).toInt ≤ 300 := tz_431.1 36
          have q_623 := (((((o_618.fi 36 (by decide))).trans (o_563.fi 36 (by decide))).trans (o_556.fi 36 (by decide))).trans (o_438.fi 36 (by decide))).trans (o_397.fi 36 (by decide))
          refine s_X9_number ((23 : Int64)) z_431 _ tz_431 (by omega) (fun r_432 z_433 tz_433 o_625 hp_624 => ?_)
          have oz_433 : Same [34, 37, 38, 39, 41, 42] [24] z z_433 := oz_431.tr o_625 (by decide) (by decide)
          have f_626 : 0 ≤ (gI z_433 38).toInt ∧ (gI z_433 38).toInt ≤ 300 := tz_433.1 38
          have f_627 : 0 ≤ (gI z_433 42).toInt ∧ (gI z_433 42).toInt ≤ 1 := tz_433.1 42
          refine hK_441 r_428 r_432 z_433 ?_
          refine ⟨fun c_628 => ?_, fun c_628 => ?_⟩
          · skip
            have i_634 := i_eq rfl (show (0 : Int32).toInt = 0 by decide) c_628
            have f_635 : 0 ≤ (gI z_433 34).toInt ∧ (gI z_433 34).toInt ≤ 20 := tz_433.1 34
            have q_636 := ((((((o_625.fi 34 (by decide))).trans (o_618.fi 34 (by decide))).trans (o_563.fi 34 (by decide))).trans (o_556.fi 34 (by decide))).trans (o_438.fi 34 (by decide))).trans (o_397.fi 34 (by decide))
            refine ⟨vin (a_mul (show (4 : Int32).toInt = 4 by decide) rfl (by omega) (by omega)) (by omega) (by omega), ?_⟩
            intro z_629 ez_629
            have tz_629 : TM z_629 := by rw [ez_629]; exact Ty_wR tz_433 trivial
            have oz_629 : Same [34, 37, 38, 39, 41, 42] [24] z z_629 := oz_433.r (by decide) ez_629
            have f_637 : 0 ≤ (gI z_629 34).toInt ∧ (gI z_629 34).toInt ≤ 20 := tz_629.1 34
            have q_638 := (((((((show (gI z_629 34).toInt = (gI z_433 34).toInt by rw [ez_629]; rfl)).trans (o_625.fi 34 (by decide))).trans (o_618.fi 34 (by decide))).trans (o_563.fi 34 (by decide))).trans (o_556.fi 34 (by decide))).trans (o_438.fi 34 (by decide))).trans (o_397.fi 34 (by decide))
            refine ⟨vin (a_add (a_mul (show (4 : Int32).toInt = 4 by decide) rfl (by omega) (by omega)) (show (1 : Int32).toInt = 1 by decide) (by omega) (by omega)) (by omega) (by omega), ?_⟩
            intro z_630 ez_630
            have tz_630 : TM z_630 := by rw [ez_630]; exact Ty_wR tz_629 trivial
            have oz_630 : Same [34, 37, 38, 39, 41, 42] [24] z z_630 := oz_629.r (by decide) ez_630
            have f_639 : 0 ≤ (gI z_630 34).toInt ∧ (gI z_630 34).toInt ≤ 20 := tz_630.1 34
            have q_640 := ((((((((show (gI z_630 34).toInt = (gI z_629 34).toInt by rw [ez_630]; rfl)).trans (show (gI z_629 34).toInt = (gI z_433 34).toInt by rw [ez_629]; rfl)).trans (o_625.fi 34 (by decide))).trans (o_618.fi 34 (by decide))).trans (o_563.fi 34 (by decide))).trans (o_556.fi 34 (by decide))).trans (o_438.fi 34 (by decide))).trans (o_397.fi 34 (by decide))
            refine ⟨vin (a_add (a_mul (show (4 : Int32).toInt = 4 by decide) rfl (by omega) (by omega)) (show (2 : Int32).toInt = 2 by decide) (by omega) (by omega)) (by omega) (by omega), ?_⟩
            intro z_631 ez_631
            have tz_631 : TM z_631 := by rw [ez_631]; exact Ty_wR tz_630 trivial
            have oz_631 : Same [34, 37, 38, 39, 41, 42] [24] z z_631 := oz_630.r (by decide) ez_631
            have f_641 : 0 ≤ (gI z_631 34).toInt ∧ (gI z_631 34).toInt ≤ 20 := tz_631.1 34
            have q_642 := (((((((((show (gI z_631 34).toInt = (gI z_630 34).toInt by rw [ez_631]; rfl)).trans (show (gI z_630 34).toInt = (gI z_629 34).toInt by rw [ez_630]; rfl)).trans (show (gI z_629 34).toInt = (gI z_433 34).toInt by rw [ez_629]; rfl)).trans (o_625.fi 34 (by decide))).trans (o_618.fi 34 (by decide))).trans (o_563.fi 34 (by decide))).trans (o_556.fi 34 (by decide))).trans (o_438.fi 34 (by decide))).trans (o_397.fi 34 (by decide))
            refine ⟨vin (a_add (a_mul (show (4 : Int32).toInt = 4 by decide) rfl (by omega) (by omega)) (show (3 : Int32).toInt = 3 by decide) (by omega) (by omega)) (by omega) (by omega), ?_⟩
            intro z_632 ez_632
            have tz_632 : TM z_632 := by rw [ez_632]; exact Ty_wR tz_631 trivial
            have oz_632 : Same [34, 37, 38, 39, 41, 42] [24] z z_632 := oz_631.r (by decide) ez_632
            intro z_633 ez_633
            have f_643 : 0 ≤ (gI z_632 34).toInt ∧ (gI z_632 34).toInt ≤ 20 := tz_632.1 34
            have q_644 := ((((((((((show (gI z_632 34).toInt = (gI z_631 34).toInt by rw [ez_632]; rfl)).trans (show (gI z_631 34).toInt = (gI z_630 34).toInt by rw [ez_631]; rfl)).trans (show (gI z_630 34).toInt = (gI z_629 34).toInt by rw [ez_630]; rfl)).trans (show (gI z_629 34).toInt = (gI z_433 34).toInt by rw [ez_629]; rfl)).trans (o_625.fi 34 (by decide))).trans (o_618.fi 34 (by decide))).trans (o_563.fi 34 (by decide))).trans (o_556.fi 34 (by decide))).trans (o_438.fi 34 (by decide))).trans (o_397.fi 34 (by decide))
            have tz_633 : TM z_633 := by rw [ez_633]; exact Ty_wI tz_632 (show 0 ≤ ((gI z_632 34) + (1 : Int32)).toInt ∧ ((gI z_632 34) + (1 : Int32)).toInt ≤ 20 from by rw [(a_add rfl (show (1 : Int32).toInt = 1 by decide) (by omega) (by omega))]; omega)
            have oz_633 : Same [34, 37, 38, 39, 41, 42] [24] z z_633 := oz_632.i (by decide) ez_633
            have f_645 : 0 ≤ (gI z_633 38).toInt ∧ (gI z_633 38).toInt ≤ 300 := tz_633.1 38
            have q_646 := (((((show (gI z_633 38).toInt = (gI z_632 38).toInt by rw [ez_633]; rfl)).trans (show (gI z_632 38).toInt = (gI z_631 38).toInt by rw [ez_632]; rfl)).trans (show (gI z_631 38).toInt = (gI z_630 38).toInt by rw [ez_631]; rfl)).trans (show (gI z_630 38).toInt = (gI z_629 38).toInt by rw [ez_630]; rfl)).trans (show (gI z_629 38).toInt = (gI z_433 38).toInt by rw [ez_629]; rfl)
            have f_647 : 0 ≤ (gI z_633 42).toInt ∧ (gI z_633 42).toInt ≤ 1 := tz_633.1 42
            have q_648 := (((((show (gI z_633 42).toInt = (gI z_632 42).toInt by rw [ez_633]; rfl)).trans (show (gI z_632 42).toInt = (gI z_631 42).toInt by rw [ez_632]; rfl)).trans (show (gI z_631 42).toInt = (gI z_630 42).toInt by rw [ez_631]; rfl)).trans (show (gI z_630 42).toInt = (gI z_629 42).toInt by rw [ez_630]; rfl)).trans (show (gI z_629 42).toInt = (gI z_433 42).toInt by rw [ez_629]; rfl)
            have f_649 : 0 ≤ (gI z_633 34).toInt ∧ (gI z_633 34).toInt ≤ 20 := tz_633.1 34
            have q_650 := (show (gI z_633 34).toInt = ((gI z_632 34) + (1 : Int32)).toInt by rw [ez_633]; rfl)
            have q_651 : ((gI z_632 34) + (1 : Int32)).toInt = ((gI z_632 34).toInt + (1)) := (a_add rfl (show (1 : Int32).toInt = 1 by decide) (by omega) (by omega))
            exact hk z_633 tz_633 oz_633 (by omega)
          · skip
            have i_652 := i_ne rfl (show (0 : Int32).toInt = 0 by decide) c_628
            have f_653 : 0 ≤ (gI z_433 34).toInt ∧ (gI z_433 34).toInt ≤ 20 := tz_433.1 34
            have q_654 := ((((((o_625.fi 34 (by decide))).trans (o_618.fi 34 (by decide))).trans (o_563.fi 34 (by decide))).trans (o_556.fi 34 (by decide))).trans (o_438.fi 34 (by decide))).trans (o_397.fi 34 (by decide))
            exact hk z_433 tz_433 oz_433 (by omega)
  · subst er2
    intro K4 hK_655
    refine ⟨fun _ => ?_, fun hc => absurd (show ((0 : Int32)) = ((0 : Int32)) by decide) hc⟩
    have g_656 : (100 : Int32).toInt = 100 := by decide
    have g_657 : (101 : Int32).toInt = 101 := by decide
    have g_658 : (97 : Int32).toInt = 97 := by decide
    have g_659 : (114 : Int32).toInt = 114 := by decide
    have g_660 : (0 : Int32).toInt = 0 := by decide
    have g_661 : (0 : Int32).toInt = 0 := by decide
    refine s_X9_isWord ((100 : Int32)) ((101 : Int32)) ((97 : Int32)) ((114 : Int32)) ((0 : Int32)) ((0 : Int32)) z _ ht  (fun r57 hp_662 => ?_)
    rcases hp_662 with ⟨er57, hp_662⟩ | ⟨er57, hp_662⟩
    · subst er57
      refine ⟨fun hc => absurd hc (by decide), fun _ => ?_⟩
      refine hK_655 ((1 : Int32)) ?_
      intro K_663 hK_705
      intro K_702 hK_706
      refine ⟨fun hc => absurd hc (by decide), fun _ => ?_⟩
      refine ⟨fun c_704 => ?_, fun c_704 => ?_⟩
      · skip
        have f_707 : 0 ≤ (gI z 34).toInt ∧ (gI z 34).toInt ≤ 20 := ht.1 34
        have i_708 := i_le (show (20 : Int32).toInt = 20 by decide) rfl c_704
        refine hK_706  ?_
        refine hK_705 ((0 : Int32)) ?_
        have g_746 : (0 : Int32).toInt = 0 := by decide
        have f_747 : 0 ≤ (gI z 38).toInt ∧ (gI z 38).toInt ≤ 300 := ht.1 38
        have f_748 : 0 ≤ (gI z 36).toInt ∧ (gI z 36).toInt ≤ 300 := ht.1 36
        refine s_X9_must ((0 : Int32)) z _ ht (by omega) (fun z_709 tz_709 o_750 hp_749 => ?_)
        have oz_709 : Same [34, 37, 38, 39, 41, 42] [24] z z_709 := (Same.rf (z := z)).tr o_750 (by decide) (by decide)
        have f_751 : 0 ≤ (gI z_709 38).toInt ∧ (gI z_709 38).toInt ≤ 300 := tz_709.1 38
        have f_752 : 0 ≤ (gI z_709 42).toInt ∧ (gI z_709 42).toInt ≤ 1 := tz_709.1 42
        have f_753 : 0 ≤ (gI z 42).toInt ∧ (gI z 42).toInt ≤ 1 := ht.1 42
        intro K_710 hK_754
        refine ⟨fun _ => ?_, fun hc => absurd hc (by decide)⟩
        refine ⟨fun hc => absurd hc (by decide), fun _ => ?_⟩
        refine hK_754 ((10000 : Int64)) ?_
        have g_787 : (10000 : Int64).toInt = 10000 := by decide
        have f_788 : 0 ≤ (gI z_709 36).toInt ∧ (gI z_709 36).toInt ≤ 300 := tz_709.1 36
        have q_789 := (o_750.fi 36 (by decide))
        refine s_X9_number ((10000 : Int64)) z_709 _ tz_709 (by omega) (fun r_755 z_756 tz_756 o_791 hp_790 => ?_)
        have oz_756 : Same [34, 37, 38, 39, 41, 42] [24] z z_756 := oz_709.tr o_791 (by decide) (by decide)
        have f_792 : 0 ≤ (gI z_756 38).toInt ∧ (gI z_756 38).toInt ≤ 300 := tz_756.1 38
        have f_793 : 0 ≤ (gI z_756 42).toInt ∧ (gI z_756 42).toInt ≤ 1 := tz_756.1 42
        intro K_757 hK_794
        refine ⟨fun _ => ?_, fun hc => absurd hc (by decide)⟩
        refine ⟨fun _ => ?_, fun hc => absurd hc (by decide)⟩
        refine hK_794 ((0 : Int32)) ((0 : Int32)) z_756 ?_
        refine ⟨fun c_795 => ?_, fun c_795 => ?_⟩
        · skip
          have i_801 := i_eq rfl (show (0 : Int32).toInt = 0 by decide) c_795
          have f_802 : 0 ≤ (gI z_756 34).toInt ∧ (gI z_756 34).toInt ≤ 20 := tz_756.1 34
          have q_803 := ((o_791.fi 34 (by decide))).trans (o_750.fi 34 (by decide))
          refine ⟨vin (a_mul (show (4 : Int32).toInt = 4 by decide) rfl (by omega) (by omega)) (by omega) (by omega), ?_⟩
          intro z_796 ez_796
          have tz_796 : TM z_796 := by rw [ez_796]; exact Ty_wR tz_756 trivial
          have oz_796 : Same [34, 37, 38, 39, 41, 42] [24] z z_796 := oz_756.r (by decide) ez_796
          have f_804 : 0 ≤ (gI z_796 34).toInt ∧ (gI z_796 34).toInt ≤ 20 := tz_796.1 34
          have q_805 := (((show (gI z_796 34).toInt = (gI z_756 34).toInt by rw [ez_796]; rfl)).trans (o_791.fi 34 (by decide))).trans (o_750.fi 34 (by decide))
          refine ⟨vin (a_add (a_mul (show (4 : Int32).toInt = 4 by decide) rfl (by omega) (by omega)) (show (1 : Int32).toInt = 1 by decide) (by omega) (by omega)) (by omega) (by omega), ?_⟩
          intro z_797 ez_797
          have tz_797 : TM z_797 := by rw [ez_797]; exact Ty_wR tz_796 trivial
          have oz_797 : Same [34, 37, 38, 39, 41, 42] [24] z z_797 := oz_796.r (by decide) ez_797
          have f_806 : 0 ≤ (gI z_797 34).toInt ∧ (gI z_797 34).toInt ≤ 20 := tz_797.1 34
          have q_807 := ((((show (gI z_797 34).toInt = (gI z_796 34).toInt by rw [ez_797]; rfl)).trans (show (gI z_796 34).toInt = (gI z_756 34).toInt by rw [ez_796]; rfl)).trans (o_791.fi 34 (by decide))).trans (o_750.fi 34 (by decide))
          refine ⟨vin (a_add (a_mul (show (4 : Int32).toInt = 4 by decide) rfl (by omega) (by omega)) (show (2 : Int32).toInt = 2 by decide) (by omega) (by omega)) (by omega) (by omega), ?_⟩
          intro z_798 ez_798
          have tz_798 : TM z_798 := by rw [ez_798]; exact Ty_wR tz_797 trivial
          have oz_798 : Same [34, 37, 38, 39, 41, 42] [24] z z_798 := oz_797.r (by decide) ez_798
          have f_808 : 0 ≤ (gI z_798 34).toInt ∧ (gI z_798 34).toInt ≤ 20 := tz_798.1 34
          have q_809 := (((((show (gI z_798 34).toInt = (gI z_797 34).toInt by rw [ez_798]; rfl)).trans (show (gI z_797 34).toInt = (gI z_796 34).toInt by rw [ez_797]; rfl)).trans (show (gI z_796 34).toInt = (gI z_756 34).toInt by rw [ez_796]; rfl)).trans (o_791.fi 34 (by decide))).trans (o_750.fi 34 (by decide))
          refine ⟨vin (a_add (a_mul (show (4 : Int32).toInt = 4 by decide) rfl (by omega) (by omega)) (show (3 : Int32).toInt = 3 by decide) (by omega) (by omega)) (by omega) (by omega), ?_⟩
          intro z_799 ez_799
          have tz_799 : TM z_799 := by rw [ez_799]; exact Ty_wR tz_798 trivial
          have oz_799 : Same [34, 37, 38, 39, 41, 42] [24] z z_799 := oz_798.r (by decide) ez_799
          intro z_800 ez_800
          have f_810 : 0 ≤ (gI z_799 34).toInt ∧ (gI z_799 34).toInt ≤ 20 := tz_799.1 34
          have q_811 := ((((((show (gI z_799 34).toInt = (gI z_798 34).toInt by rw [ez_799]; rfl)).trans (show (gI z_798 34).toInt = (gI z_797 34).toInt by rw [ez_798]; rfl)).trans (show (gI z_797 34).toInt = (gI z_796 34).toInt by rw [ez_797]; rfl)).trans (show (gI z_796 34).toInt = (gI z_756 34).toInt by rw [ez_796]; rfl)).trans (o_791.fi 34 (by decide))).trans (o_750.fi 34 (by decide))
          have tz_800 : TM z_800 := by rw [ez_800]; exact Ty_wI tz_799 (show 0 ≤ ((gI z_799 34) + (1 : Int32)).toInt ∧ ((gI z_799 34) + (1 : Int32)).toInt ≤ 20 from by rw [(a_add rfl (show (1 : Int32).toInt = 1 by decide) (by omega) (by omega))]; omega)
          have oz_800 : Same [34, 37, 38, 39, 41, 42] [24] z z_800 := oz_799.i (by decide) ez_800
          have f_812 : 0 ≤ (gI z_800 38).toInt ∧ (gI z_800 38).toInt ≤ 300 := tz_800.1 38
          have q_813 := (((((show (gI z_800 38).toInt = (gI z_799 38).toInt by rw [ez_800]; rfl)).trans (show (gI z_799 38).toInt = (gI z_798 38).toInt by rw [ez_799]; rfl)).trans (show (gI z_798 38).toInt = (gI z_797 38).toInt by rw [ez_798]; rfl)).trans (show (gI z_797 38).toInt = (gI z_796 38).toInt by rw [ez_797]; rfl)).trans (show (gI z_796 38).toInt = (gI z_756 38).toInt by rw [ez_796]; rfl)
          have f_814 : 0 ≤ (gI z_800 42).toInt ∧ (gI z_800 42).toInt ≤ 1 := tz_800.1 42
          have q_815 := (((((show (gI z_800 42).toInt = (gI z_799 42).toInt by rw [ez_800]; rfl)).trans (show (gI z_799 42).toInt = (gI z_798 42).toInt by rw [ez_799]; rfl)).trans (show (gI z_798 42).toInt = (gI z_797 42).toInt by rw [ez_798]; rfl)).trans (show (gI z_797 42).toInt = (gI z_796 42).toInt by rw [ez_797]; rfl)).trans (show (gI z_796 42).toInt = (gI z_756 42).toInt by rw [ez_796]; rfl)
          have f_816 : 0 ≤ (gI z_800 34).toInt ∧ (gI z_800 34).toInt ≤ 20 := tz_800.1 34
          have q_817 := (show (gI z_800 34).toInt = ((gI z_799 34) + (1 : Int32)).toInt by rw [ez_800]; rfl)
          have q_818 : ((gI z_799 34) + (1 : Int32)).toInt = ((gI z_799 34).toInt + (1)) := (a_add rfl (show (1 : Int32).toInt = 1 by decide) (by omega) (by omega))
          exact hk z_800 tz_800 oz_800 (by omega)
        · skip
          have i_819 := i_ne rfl (show (0 : Int32).toInt = 0 by decide) c_795
          have f_820 : 0 ≤ (gI z_756 34).toInt ∧ (gI z_756 34).toInt ≤ 20 := tz_756.1 34
          have q_821 := ((o_791.fi 34 (by decide))).trans (o_750.fi 34 (by decide))
          exact hk z_756 tz_756 oz_756 (by omega)
      · skip
        have f_822 : 0 ≤ (gI z 34).toInt ∧ (gI z 34).toInt ≤ 20 := ht.1 34
        have i_823 := i_nle (show (20 : Int32).toInt = 20 by decide) rfl c_704
        refine hK_705 ((1 : Int32)) ?_
        have g_861 : (1 : Int32).toInt = 1 := by decide
        have f_862 : 0 ≤ (gI z 38).toInt ∧ (gI z 38).toInt ≤ 300 := ht.1 38
        have f_863 : 0 ≤ (gI z 36).toInt ∧ (gI z 36).toInt ≤ 300 := ht.1 36
        refine s_X9_must ((1 : Int32)) z _ ht (by omega) (fun z_824 tz_824 o_865 hp_864 => ?_)
        have oz_824 : Same [34, 37, 38, 39, 41, 42] [24] z z_824 := (Same.rf (z := z)).tr o_865 (by decide) (by decide)
        have f_866 : 0 ≤ (gI z_824 38).toInt ∧ (gI z_824 38).toInt ≤ 300 := tz_824.1 38
        have f_867 : 0 ≤ (gI z_824 42).toInt ∧ (gI z_824 42).toInt ≤ 1 := tz_824.1 42
        have f_868 : 0 ≤ (gI z 42).toInt ∧ (gI z 42).toInt ≤ 1 := ht.1 42
        intro K_825 hK_869
        refine ⟨fun _ => ?_, fun hc => absurd hc (by decide)⟩
        refine ⟨fun hc => absurd hc (by decide), fun _ => ?_⟩
        refine hK_869 ((10000 : Int64)) ?_
        have g_902 : (10000 : Int64).toInt = 10000 := by decide
        have f_903 : 0 ≤ (gI z_824 36).toInt ∧ (gI z_824 36).toInt ≤ 300 := tz_824.1 36
        have q_904 := (o_865.fi 36 (by decide))
        refine s_X9_number ((10000 : Int64)) z_824 _ tz_824 (by omega) (fun r_870 z_871 tz_871 o_906 hp_905 => ?_)
        have oz_871 : Same [34, 37, 38, 39, 41, 42] [24] z z_871 := oz_824.tr o_906 (by decide) (by decide)
        have f_907 : 0 ≤ (gI z_871 38).toInt ∧ (gI z_871 38).toInt ≤ 300 := tz_871.1 38
        have f_908 : 0 ≤ (gI z_871 42).toInt ∧ (gI z_871 42).toInt ≤ 1 := tz_871.1 42
        intro K_872 hK_909
        refine ⟨fun _ => ?_, fun hc => absurd hc (by decide)⟩
        refine ⟨fun _ => ?_, fun hc => absurd hc (by decide)⟩
        refine hK_909 ((0 : Int32)) ((0 : Int32)) z_871 ?_
        refine ⟨fun c_910 => ?_, fun c_910 => ?_⟩
        · skip
          have i_916 := i_eq rfl (show (0 : Int32).toInt = 0 by decide) c_910
          have f_917 : 0 ≤ (gI z_871 34).toInt ∧ (gI z_871 34).toInt ≤ 20 := tz_871.1 34
          have q_918 := ((o_906.fi 34 (by decide))).trans (o_865.fi 34 (by decide))
          refine ⟨vin (a_mul (show (4 : Int32).toInt = 4 by decide) rfl (by omega) (by omega)) (by omega) (by omega), ?_⟩
          intro z_911 ez_911
          have tz_911 : TM z_911 := by rw [ez_911]; exact Ty_wR tz_871 trivial
          have oz_911 : Same [34, 37, 38, 39, 41, 42] [24] z z_911 := oz_871.r (by decide) ez_911
          have f_919 : 0 ≤ (gI z_911 34).toInt ∧ (gI z_911 34).toInt ≤ 20 := tz_911.1 34
          have q_920 := (((show (gI z_911 34).toInt = (gI z_871 34).toInt by rw [ez_911]; rfl)).trans (o_906.fi 34 (by decide))).trans (o_865.fi 34 (by decide))
          refine ⟨vin (a_add (a_mul (show (4 : Int32).toInt = 4 by decide) rfl (by omega) (by omega)) (show (1 : Int32).toInt = 1 by decide) (by omega) (by omega)) (by omega) (by omega), ?_⟩
          intro z_912 ez_912
          have tz_912 : TM z_912 := by rw [ez_912]; exact Ty_wR tz_911 trivial
          have oz_912 : Same [34, 37, 38, 39, 41, 42] [24] z z_912 := oz_911.r (by decide) ez_912
          have f_921 : 0 ≤ (gI z_912 34).toInt ∧ (gI z_912 34).toInt ≤ 20 := tz_912.1 34
          have q_922 := ((((show (gI z_912 34).toInt = (gI z_911 34).toInt by rw [ez_912]; rfl)).trans (show (gI z_911 34).toInt = (gI z_871 34).toInt by rw [ez_911]; rfl)).trans (o_906.fi 34 (by decide))).trans (o_865.fi 34 (by decide))
          refine ⟨vin (a_add (a_mul (show (4 : Int32).toInt = 4 by decide) rfl (by omega) (by omega)) (show (2 : Int32).toInt = 2 by decide) (by omega) (by omega)) (by omega) (by omega), ?_⟩
          intro z_913 ez_913
          have tz_913 : TM z_913 := by rw [ez_913]; exact Ty_wR tz_912 trivial
          have oz_913 : Same [34, 37, 38, 39, 41, 42] [24] z z_913 := oz_912.r (by decide) ez_913
          have f_923 : 0 ≤ (gI z_913 34).toInt ∧ (gI z_913 34).toInt ≤ 20 := tz_913.1 34
          have q_924 := (((((show (gI z_913 34).toInt = (gI z_912 34).toInt by rw [ez_913]; rfl)).trans (show (gI z_912 34).toInt = (gI z_911 34).toInt by rw [ez_912]; rfl)).trans (show (gI z_911 34).toInt = (gI z_871 34).toInt by rw [ez_911]; rfl)).trans (o_906.fi 34 (by decide))).trans (o_865.fi 34 (by decide))
          refine ⟨vin (a_add (a_mul (show (4 : Int32).toInt = 4 by decide) rfl (by omega) (by omega)) (show (3 : Int32).toInt = 3 by decide) (by omega) (by omega)) (by omega) (by omega), ?_⟩
          intro z_914 ez_914
          have tz_914 : TM z_914 := by rw [ez_914]; exact Ty_wR tz_913 trivial
          have oz_914 : Same [34, 37, 38, 39, 41, 42] [24] z z_914 := oz_913.r (by decide) ez_914
          intro z_915 ez_915
          have f_925 : 0 ≤ (gI z_914 34).toInt ∧ (gI z_914 34).toInt ≤ 20 := tz_914.1 34
          have q_926 := ((((((show (gI z_914 34).toInt = (gI z_913 34).toInt by rw [ez_914]; rfl)).trans (show (gI z_913 34).toInt = (gI z_912 34).toInt by rw [ez_913]; rfl)).trans (show (gI z_912 34).toInt = (gI z_911 34).toInt by rw [ez_912]; rfl)).trans (show (gI z_911 34).toInt = (gI z_871 34).toInt by rw [ez_911]; rfl)).trans (o_906.fi 34 (by decide))).trans (o_865.fi 34 (by decide))
          have tz_915 : TM z_915 := by rw [ez_915]; exact Ty_wI tz_914 (show 0 ≤ ((gI z_914 34) + (1 : Int32)).toInt ∧ ((gI z_914 34) + (1 : Int32)).toInt ≤ 20 from by rw [(a_add rfl (show (1 : Int32).toInt = 1 by decide) (by omega) (by omega))]; omega)
          have oz_915 : Same [34, 37, 38, 39, 41, 42] [24] z z_915 := oz_914.i (by decide) ez_915
          have f_927 : 0 ≤ (gI z_915 38).toInt ∧ (gI z_915 38).toInt ≤ 300 := tz_915.1 38
          have q_928 := (((((show (gI z_915 38).toInt = (gI z_914 38).toInt by rw [ez_915]; rfl)).trans (show (gI z_914 38).toInt = (gI z_913 38).toInt by rw [ez_914]; rfl)).trans (show (gI z_913 38).toInt = (gI z_912 38).toInt by rw [ez_913]; rfl)).trans (show (gI z_912 38).toInt = (gI z_911 38).toInt by rw [ez_912]; rfl)).trans (show (gI z_911 38).toInt = (gI z_871 38).toInt by rw [ez_911]; rfl)
          have f_929 : 0 ≤ (gI z_915 42).toInt ∧ (gI z_915 42).toInt ≤ 1 := tz_915.1 42
          have q_930 := (((((show (gI z_915 42).toInt = (gI z_914 42).toInt by rw [ez_915]; rfl)).trans (show (gI z_914 42).toInt = (gI z_913 42).toInt by rw [ez_914]; rfl)).trans (show (gI z_913 42).toInt = (gI z_912 42).toInt by rw [ez_913]; rfl)).trans (show (gI z_912 42).toInt = (gI z_911 42).toInt by rw [ez_912]; rfl)).trans (show (gI z_911 42).toInt = (gI z_871 42).toInt by rw [ez_911]; rfl)
          have f_931 : 0 ≤ (gI z_915 34).toInt ∧ (gI z_915 34).toInt ≤ 20 := tz_915.1 34
          have q_932 := (show (gI z_915 34).toInt = ((gI z_914 34) + (1 : Int32)).toInt by rw [ez_915]; rfl)
          have q_933 : ((gI z_914 34) + (1 : Int32)).toInt = ((gI z_914 34).toInt + (1)) := (a_add rfl (show (1 : Int32).toInt = 1 by decide) (by omega) (by omega))
          exact hk z_915 tz_915 oz_915 (by omega)
        · skip
          have i_934 := i_ne rfl (show (0 : Int32).toInt = 0 by decide) c_910
          have f_935 : 0 ≤ (gI z_871 34).toInt ∧ (gI z_871 34).toInt ≤ 20 := tz_871.1 34
          have q_936 := ((o_906.fi 34 (by decide))).trans (o_865.fi 34 (by decide))
          exact hk z_871 tz_871 oz_871 (by omega)
    · subst er57
      refine ⟨fun _ => ?_, fun hc => absurd (show ((0 : Int32)) = ((0 : Int32)) by decide) hc⟩
      have g_937 : (106 : Int32).toInt = 106 := by decide
      have g_938 : (111 : Int32).toInt = 111 := by decide
      have g_939 : (98 : Int32).toInt = 98 := by decide
      have g_940 : (0 : Int32).toInt = 0 := by decide
      have g_941 : (0 : Int32).toInt = 0 := by decide
      have g_942 : (0 : Int32).toInt = 0 := by decide
      refine s_X9_isWord ((106 : Int32)) ((111 : Int32)) ((98 : Int32)) ((0 : Int32)) ((0 : Int32)) ((0 : Int32)) z _ ht  (fun r60 hp_943 => ?_)
      rcases hp_943 with ⟨er60, hp_943⟩ | ⟨er60, hp_943⟩
      · subst er60
        refine ⟨fun hc => absurd hc (by decide), fun _ => ?_⟩
        refine hK_655 ((2 : Int32)) ?_
        intro K_944 hK_986
        intro K_983 hK_987
        refine ⟨fun hc => absurd hc (by decide), fun _ => ?_⟩
        refine ⟨fun c_985 => ?_, fun c_985 => ?_⟩
        · skip
          have f_988 : 0 ≤ (gI z 34).toInt ∧ (gI z 34).toInt ≤ 20 := ht.1 34
          have i_989 := i_le (show (20 : Int32).toInt = 20 by decide) rfl c_985
          refine hK_987  ?_
          refine hK_986 ((0 : Int32)) ?_
          have g_1027 : (0 : Int32).toInt = 0 := by decide
          have f_1028 : 0 ≤ (gI z 38).toInt ∧ (gI z 38).toInt ≤ 300 := ht.1 38
          have f_1029 : 0 ≤ (gI z 36).toInt ∧ (gI z 36).toInt ≤ 300 := ht.1 36
          refine s_X9_must ((0 : Int32)) z _ ht (by omega) (fun z_990 tz_990 o_1031 hp_1030 => ?_)
          have oz_990 : Same [34, 37, 38, 39, 41, 42] [24] z z_990 := (Same.rf (z := z)).tr o_1031 (by decide) (by decide)
          have f_1032 : 0 ≤ (gI z_990 38).toInt ∧ (gI z_990 38).toInt ≤ 300 := tz_990.1 38
          have f_1033 : 0 ≤ (gI z_990 42).toInt ∧ (gI z_990 42).toInt ≤ 1 := tz_990.1 42
          have f_1034 : 0 ≤ (gI z 42).toInt ∧ (gI z 42).toInt ≤ 1 := ht.1 42
          intro K_991 hK_1035
          refine ⟨fun _ => ?_, fun hc => absurd hc (by decide)⟩
          refine ⟨fun _ => ?_, fun hc => absurd hc (by decide)⟩
          refine hK_1035 ((15 : Int64)) ?_
          have g_1068 : (15 : Int64).toInt = 15 := by decide
          have f_1069 : 0 ≤ (gI z_990 36).toInt ∧ (gI z_990 36).toInt ≤ 300 := tz_990.1 36
          have q_1070 := (o_1031.fi 36 (by decide))
          refine s_X9_number ((15 : Int64)) z_990 _ tz_990 (by omega) (fun r_1036 z_1037 tz_1037 o_1072 hp_1071 => ?_)
          have oz_1037 : Same [34, 37, 38, 39, 41, 42] [24] z z_1037 := oz_990.tr o_1072 (by decide) (by decide)
          have f_1073 : 0 ≤ (gI z_1037 38).toInt ∧ (gI z_1037 38).toInt ≤ 300 := tz_1037.1 38
          have f_1074 : 0 ≤ (gI z_1037 42).toInt ∧ (gI z_1037 42).toInt ≤ 1 := tz_1037.1 42
          intro K_1038 hK_1075
          refine ⟨fun _ => ?_, fun hc => absurd hc (by decide)⟩
          refine ⟨fun hc => absurd hc (by decide), fun _ => ?_⟩
          have g_1076 : (98 : Int32).toInt = 98 := by decide
          have g_1077 : (101 : Int32).toInt = 101 := by decide
          have g_1078 : (102 : Int32).toInt = 102 := by decide
          have g_1079 : (111 : Int32).toInt = 111 := by decide
          have g_1080 : (114 : Int32).toInt = 114 := by decide
          have g_1081 : (101 : Int32).toInt = 101 := by decide
          refine s_X9_isWord ((98 : Int32)) ((101 : Int32)) ((102 : Int32)) ((111 : Int32)) ((114 : Int32)) ((101 : Int32)) z_1037 _ tz_1037  (fun r_1050 hp_1082 => ?_)
          rcases hp_1082 with ⟨er_1050, hp_1082⟩ | ⟨er_1050, hp_1082⟩
          · subst er_1050
            have g_1083 : (1 : Int32).toInt = 1 := by decide
            have f_1084 : 0 ≤ (gI z_1037 36).toInt ∧ (gI z_1037 36).toInt ≤ 300 := tz_1037.1 36
            have q_1085 := ((o_1072.fi 36 (by decide))).trans (o_1031.fi 36 (by decide))
            refine s_X9_must ((1 : Int32)) z_1037 _ tz_1037 (by omega) (fun z_1051 tz_1051 o_1087 hp_1086 => ?_)
            have oz_1051 : Same [34, 37, 38, 39, 41, 42] [24] z z_1051 := oz_1037.tr o_1087 (by decide) (by decide)
            have f_1088 : 0 ≤ (gI z_1051 38).toInt ∧ (gI z_1051 38).toInt ≤ 300 := tz_1051.1 38
            have f_1089 : 0 ≤ (gI z_1051 42).toInt ∧ (gI z_1051 42).toInt ≤ 1 := tz_1051.1 42
            intro y_1052 ey_1052
            have iy_1052 : y_1052.toInt = (Int64.toInt32 (gJ z_1051 40)).toInt := by rw [ey_1052]
            intro K_1053 hK_1090
            intro K_1056 hK_1091
            refine ⟨fun c_1057 => ?_, fun c_1057 => ?_⟩
            · skip
              have i_1092 := i_ne rfl (show (2 : Int32).toInt = 2 by decide) c_1057
              refine hK_1091  ?_
              refine hK_1090 ((0 : Int32)) ?_
              have g_1094 : (0 : Int32).toInt = 0 := by decide
              have f_1095 : 0 ≤ (gI z_1051 36).toInt ∧ (gI z_1051 36).toInt ≤ 300 := tz_1051.1 36
              have q_1096 := (((o_1087.fi 36 (by decide))).trans (o_1072.fi 36 (by decide))).trans (o_1031.fi 36 (by decide))
              refine s_X9_must ((0 : Int32)) z_1051 _ tz_1051 (by omega) (fun z_1093 tz_1093 o_1098 hp_1097 => ?_)
              have oz_1093 : Same [34, 37, 38, 39, 41, 42] [24] z z_1093 := oz_1051.tr o_1098 (by decide) (by decide)
              have f_1099 : 0 ≤ (gI z_1093 38).toInt ∧ (gI z_1093 38).toInt ≤ 300 := tz_1093.1 38
              have f_1100 : 0 ≤ (gI z_1093 42).toInt ∧ (gI z_1093 42).toInt ≤ 1 := tz_1093.1 42
              refine hK_1075 y_1052 ((0 : Int32)) z_1093 ?_
              refine ⟨fun c_1101 => ?_, fun c_1101 => ?_⟩
              · skip
                have i_1107 := i_eq rfl (show (0 : Int32).toInt = 0 by decide) c_1101
                have f_1108 : 0 ≤ (gI z_1093 34).toInt ∧ (gI z_1093 34).toInt ≤ 20 := tz_1093.1 34
                have q_1109 := ((((o_1098.fi 34 (by decide))).trans (o_1087.fi 34 (by decide))).trans (o_1072.fi 34 (by decide))).trans (o_1031.fi 34 (by decide))
                refine ⟨vin (a_mul (show (4 : Int32).toInt = 4 by decide) rfl (by omega) (by omega)) (by omega) (by omega), ?_⟩
                intro z_1102 ez_1102
                have tz_1102 : TM z_1102 := by rw [ez_1102]; exact Ty_wR tz_1093 trivial
                have oz_1102 : Same [34, 37, 38, 39, 41, 42] [24] z z_1102 := oz_1093.r (by decide) ez_1102
                have f_1110 : 0 ≤ (gI z_1102 34).toInt ∧ (gI z_1102 34).toInt ≤ 20 := tz_1102.1 34
                have q_1111 := (((((show (gI z_1102 34).toInt = (gI z_1093 34).toInt by rw [ez_1102]; rfl)).trans (o_1098.fi 34 (by decide))).trans (o_1087.fi 34 (by decide))).trans (o_1072.fi 34 (by decide))).trans (o_1031.fi 34 (by decide))
                refine ⟨vin (a_add (a_mul (show (4 : Int32).toInt = 4 by decide) rfl (by omega) (by omega)) (show (1 : Int32).toInt = 1 by decide) (by omega) (by omega)) (by omega) (by omega), ?_⟩
                intro z_1103 ez_1103
                have tz_1103 : TM z_1103 := by rw [ez_1103]; exact Ty_wR tz_1102 trivial
                have oz_1103 : Same [34, 37, 38, 39, 41, 42] [24] z z_1103 := oz_1102.r (by decide) ez_1103
                have f_1112 : 0 ≤ (gI z_1103 34).toInt ∧ (gI z_1103 34).toInt ≤ 20 := tz_1103.1 34
                have q_1113 := ((((((show (gI z_1103 34).toInt = (gI z_1102 34).toInt by rw [ez_1103]; rfl)).trans (show (gI z_1102 34).toInt = (gI z_1093 34).toInt by rw [ez_1102]; rfl)).trans (o_1098.fi 34 (by decide))).trans (o_1087.fi 34 (by decide))).trans (o_1072.fi 34 (by decide))).trans (o_1031.fi 34 (by decide))
                refine ⟨vin (a_add (a_mul (show (4 : Int32).toInt = 4 by decide) rfl (by omega) (by omega)) (show (2 : Int32).toInt = 2 by decide) (by omega) (by omega)) (by omega) (by omega), ?_⟩
                intro z_1104 ez_1104
                have tz_1104 : TM z_1104 := by rw [ez_1104]; exact Ty_wR tz_1103 trivial
                have oz_1104 : Same [34, 37, 38, 39, 41, 42] [24] z z_1104 := oz_1103.r (by decide) ez_1104
                have f_1114 : 0 ≤ (gI z_1104 34).toInt ∧ (gI z_1104 34).toInt ≤ 20 := tz_1104.1 34
                have q_1115 := (((((((show (gI z_1104 34).toInt = (gI z_1103 34).toInt by rw [ez_1104]; rfl)).trans (show (gI z_1103 34).toInt = (gI z_1102 34).toInt by rw [ez_1103]; rfl)).trans (show (gI z_1102 34).toInt = (gI z_1093 34).toInt by rw [ez_1102]; rfl)).trans (o_1098.fi 34 (by decide))).trans (o_1087.fi 34 (by decide))).trans (o_1072.fi 34 (by decide))).trans (o_1031.fi 34 (by decide))
                refine ⟨vin (a_add (a_mul (show (4 : Int32).toInt = 4 by decide) rfl (by omega) (by omega)) (show (3 : Int32).toInt = 3 by decide) (by omega) (by omega)) (by omega) (by omega), ?_⟩
                intro z_1105 ez_1105
                have tz_1105 : TM z_1105 := by rw [ez_1105]; exact Ty_wR tz_1104 trivial
                have oz_1105 : Same [34, 37, 38, 39, 41, 42] [24] z z_1105 := oz_1104.r (by decide) ez_1105
                intro z_1106 ez_1106
                have f_1116 : 0 ≤ (gI z_1105 34).toInt ∧ (gI z_1105 34).toInt ≤ 20 := tz_1105.1 34
                have q_1117 := ((((((((show (gI z_1105 34).toInt = (gI z_1104 34).toInt by rw [ez_1105]; rfl)).trans (show (gI z_1104 34).toInt = (gI z_1103 34).toInt by rw [ez_1104]; rfl)).trans (show (gI z_1103 34).toInt = (gI z_1102 34).toInt by rw [ez_1103]; rfl)).trans (show (gI z_1102 34).toInt = (gI z_1093 34).toInt by rw [ez_1102]; rfl)).trans (o_1098.fi 34 (by decide))).trans (o_1087.fi 34 (by decide))).trans (o_1072.fi 34 (by decide))).trans (o_1031.fi 34 (by decide))
                have tz_1106 : TM z_1106 := by rw [ez_1106]; exact Ty_wI tz_1105 (show 0 ≤ ((gI z_1105 34) + (1 : Int32)).toInt ∧ ((gI z_1105 34) + (1 : Int32)).toInt ≤ 20 from by rw [(a_add rfl (show (1 : Int32).toInt = 1 by decide) (by omega) (by omega))]; omega)
                have oz_1106 : Same [34, 37, 38, 39, 41, 42] [24] z z_1106 := oz_1105.i (by decide) ez_1106
                have f_1118 : 0 ≤ (gI z_1106 38).toInt ∧ (gI z_1106 38).toInt ≤ 300 := tz_1106.1 38
                have q_1119 := (((((show (gI z_1106 38).toInt = (gI z_1105 38).toInt by rw [ez_1106]; rfl)).trans (show (gI z_1105 38).toInt = (gI z_1104 38).toInt by rw [ez_1105]; rfl)).trans (show (gI z_1104 38).toInt = (gI z_1103 38).toInt by rw [ez_1104]; rfl)).trans (show (gI z_1103 38).toInt = (gI z_1102 38).toInt by rw [ez_1103]; rfl)).trans (show (gI z_1102 38).toInt = (gI z_1093 38).toInt by rw [ez_1102]; rfl)
                have f_1120 : 0 ≤ (gI z_1106 42).toInt ∧ (gI z_1106 42).toInt ≤ 1 := tz_1106.1 42
                have q_1121 := (((((show (gI z_1106 42).toInt = (gI z_1105 42).toInt by rw [ez_1106]; rfl)).trans (show (gI z_1105 42).toInt = (gI z_1104 42).toInt by rw [ez_1105]; rfl)).trans (show (gI z_1104 42).toInt = (gI z_1103 42).toInt by rw [ez_1104]; rfl)).trans (show (gI z_1103 42).toInt = (gI z_1102 42).toInt by rw [ez_1103]; rfl)).trans (show (gI z_1102 42).toInt = (gI z_1093 42).toInt by rw [ez_1102]; rfl)
                have f_1122 : 0 ≤ (gI z_1106 34).toInt ∧ (gI z_1106 34).toInt ≤ 20 := tz_1106.1 34
                have q_1123 := (show (gI z_1106 34).toInt = ((gI z_1105 34) + (1 : Int32)).toInt by rw [ez_1106]; rfl)
                have q_1124 : ((gI z_1105 34) + (1 : Int32)).toInt = ((gI z_1105 34).toInt + (1)) := (a_add rfl (show (1 : Int32).toInt = 1 by decide) (by omega) (by omega))
                exact hk z_1106 tz_1106 oz_1106 (by omega)
              · skip
                have i_1125 := i_ne rfl (show (0 : Int32).toInt = 0 by decide) c_1101
                have f_1126 : 0 ≤ (gI z_1093 34).toInt ∧ (gI z_1093 34).toInt ≤ 20 := tz_1093.1 34
                have q_1127 := ((((o_1098.fi 34 (by decide))).trans (o_1087.fi 34 (by decide))).trans (o_1072.fi 34 (by decide))).trans (o_1031.fi 34 (by decide))
                exact hk z_1093 tz_1093 oz_1093 (by omega)
            · skip
              have i_1128 := i_eq rfl (show (2 : Int32).toInt = 2 by decide) c_1057
              refine ⟨fun c_1058 => ?_, fun c_1058 => ?_⟩
              · skip
                refine hK_1091  ?_
                refine hK_1090 ((0 : Int32)) ?_
                have g_1130 : (0 : Int32).toInt = 0 := by decide
                have f_1131 : 0 ≤ (gI z_1051 36).toInt ∧ (gI z_1051 36).toInt ≤ 300 := tz_1051.1 36
                have q_1132 := (((o_1087.fi 36 (by decide))).trans (o_1072.fi 36 (by decide))).trans (o_1031.fi 36 (by decide))
                refine s_X9_must ((0 : Int32)) z_1051 _ tz_1051 (by omega) (fun z_1129 tz_1129 o_1134 hp_1133 => ?_)
                have oz_1129 : Same [34, 37, 38, 39, 41, 42] [24] z z_1129 := oz_1051.tr o_1134 (by decide) (by decide)
                have f_1135 : 0 ≤ (gI z_1129 38).toInt ∧ (gI z_1129 38).toInt ≤ 300 := tz_1129.1 38
                have f_1136 : 0 ≤ (gI z_1129 42).toInt ∧ (gI z_1129 42).toInt ≤ 1 := tz_1129.1 42
                refine hK_1075 y_1052 ((0 : Int32)) z_1129 ?_
                refine ⟨fun c_1137 => ?_, fun c_1137 => ?_⟩
                · skip
                  have i_1143 := i_eq rfl (show (0 : Int32).toInt = 0 by decide) c_1137
                  have f_1144 : 0 ≤ (gI z_1129 34).toInt ∧ (gI z_1129 34).toInt ≤ 20 := tz_1129.1 34
                  have q_1145 := ((((o_1134.fi 34 (by decide))).trans (o_1087.fi 34 (by decide))).trans (o_1072.fi 34 (by decide))).trans (o_1031.fi 34 (by decide))
                  refine ⟨vin (a_mul (show (4 : Int32).toInt = 4 by decide) rfl (by omega) (by omega)) (by omega) (by omega), ?_⟩
                  intro z_1138 ez_1138
                  have tz_1138 : TM z_1138 := by rw [ez_1138]; exact Ty_wR tz_1129 trivial
                  have oz_1138 : Same [34, 37, 38, 39, 41, 42] [24] z z_1138 := oz_1129.r (by decide) ez_1138
                  have f_1146 : 0 ≤ (gI z_1138 34).toInt ∧ (gI z_1138 34).toInt ≤ 20 := tz_1138.1 34
                  have q_1147 := (((((show (gI z_1138 34).toInt = (gI z_1129 34).toInt by rw [ez_1138]; rfl)).trans (o_1134.fi 34 (by decide))).trans (o_1087.fi 34 (by decide))).trans (o_1072.fi 34 (by decide))).trans (o_1031.fi 34 (by decide))
                  refine ⟨vin (a_add (a_mul (show (4 : Int32).toInt = 4 by decide) rfl (by omega) (by omega)) (show (1 : Int32).toInt = 1 by decide) (by omega) (by omega)) (by omega) (by omega), ?_⟩
                  intro z_1139 ez_1139
                  have tz_1139 : TM z_1139 := by rw [ez_1139]; exact Ty_wR tz_1138 trivial
                  have oz_1139 : Same [34, 37, 38, 39, 41, 42] [24] z z_1139 := oz_1138.r (by decide) ez_1139
                  have f_1148 : 0 ≤ (gI z_1139 34).toInt ∧ (gI z_1139 34).toInt ≤ 20 := tz_1139.1 34
                  have q_1149 := ((((((show (gI z_1139 34).toInt = (gI z_1138 34).toInt by rw [ez_1139]; rfl)).trans (show (gI z_1138 34).toInt = (gI z_1129 34).toInt by rw [ez_1138]; rfl)).trans (o_1134.fi 34 (by decide))).trans (o_1087.fi 34 (by decide))).trans (o_1072.fi 34 (by decide))).trans (o_1031.fi 34 (by decide))
                  refine ⟨vin (a_add (a_mul (show (4 : Int32).toInt = 4 by decide) rfl (by omega) (by omega)) (show (2 : Int32).toInt = 2 by decide) (by omega) (by omega)) (by omega) (by omega), ?_⟩
                  intro z_1140 ez_1140
                  have tz_1140 : TM z_1140 := by rw [ez_1140]; exact Ty_wR tz_1139 trivial
                  have oz_1140 : Same [34, 37, 38, 39, 41, 42] [24] z z_1140 := oz_1139.r (by decide) ez_1140
                  have f_1150 : 0 ≤ (gI z_1140 34).toInt ∧ (gI z_1140 34).toInt ≤ 20 := tz_1140.1 34
                  have q_1151 := (((((((show (gI z_1140 34).toInt = (gI z_1139 34).toInt by rw [ez_1140]; rfl)).trans (show (gI z_1139 34).toInt = (gI z_1138 34).toInt by rw [ez_1139]; rfl)).trans (show (gI z_1138 34).toInt = (gI z_1129 34).toInt by rw [ez_1138]; rfl)).trans (o_1134.fi 34 (by decide))).trans (o_1087.fi 34 (by decide))).trans (o_1072.fi 34 (by decide))).trans (o_1031.fi 34 (by decide))
                  refine ⟨vin (a_add (a_mul (show (4 : Int32).toInt = 4 by decide) rfl (by omega) (by omega)) (show (3 : Int32).toInt = 3 by decide) (by omega) (by omega)) (by omega) (by omega), ?_⟩
                  intro z_1141 ez_1141
                  have tz_1141 : TM z_1141 := by rw [ez_1141]; exact Ty_wR tz_1140 trivial
                  have oz_1141 : Same [34, 37, 38, 39, 41, 42] [24] z z_1141 := oz_1140.r (by decide) ez_1141
                  intro z_1142 ez_1142
                  have f_1152 : 0 ≤ (gI z_1141 34).toInt ∧ (gI z_1141 34).toInt ≤ 20 := tz_1141.1 34
                  have q_1153 := ((((((((show (gI z_1141 34).toInt = (gI z_1140 34).toInt by rw [ez_1141]; rfl)).trans (show (gI z_1140 34).toInt = (gI z_1139 34).toInt by rw [ez_1140]; rfl)).trans (show (gI z_1139 34).toInt = (gI z_1138 34).toInt by rw [ez_1139]; rfl)).trans (show (gI z_1138 34).toInt = (gI z_1129 34).toInt by rw [ez_1138]; rfl)).trans (o_1134.fi 34 (by decide))).trans (o_1087.fi 34 (by decide))).trans (o_1072.fi 34 (by decide))).trans (o_1031.fi 34 (by decide))
                  have tz_1142 : TM z_1142 := by rw [ez_1142]; exact Ty_wI tz_1141 (show 0 ≤ ((gI z_1141 34) + (1 : Int32)).toInt ∧ ((gI z_1141 34) + (1 : Int32)).toInt ≤ 20 from by rw [(a_add rfl (show (1 : Int32).toInt = 1 by decide) (by omega) (by omega))]; omega)
                  have oz_1142 : Same [34, 37, 38, 39, 41, 42] [24] z z_1142 := oz_1141.i (by decide) ez_1142
                  have f_1154 : 0 ≤ (gI z_1142 38).toInt ∧ (gI z_1142 38).toInt ≤ 300 := tz_1142.1 38
                  have q_1155 := (((((show (gI z_1142 38).toInt = (gI z_1141 38).toInt by rw [ez_1142]; rfl)).trans (show (gI z_1141 38).toInt = (gI z_1140 38).toInt by rw [ez_1141]; rfl)).trans (show (gI z_1140 38).toInt = (gI z_1139 38).toInt by rw [ez_1140]; rfl)).trans (show (gI z_1139 38).toInt = (gI z_1138 38).toInt by rw [ez_1139]; rfl)).trans (show (gI z_1138 38).toInt = (gI z_1129 38).toInt by rw [ez_1138]; rfl)
                  have f_1156 : 0 ≤ (gI z_1142 42).toInt ∧ (gI z_1142 42).toInt ≤ 1 := tz_1142.1 42
                  have q_1157 := (((((show (gI z_1142 42).toInt = (gI z_1141 42).toInt by rw [ez_1142]; rfl)).trans (show (gI z_1141 42).toInt = (gI z_1140 42).toInt by rw [ez_1141]; rfl)).trans (show (gI z_1140 42).toInt = (gI z_1139 42).toInt by rw [ez_1140]; rfl)).trans (show (gI z_1139 42).toInt = (gI z_1138 42).toInt by rw [ez_1139]; rfl)).trans (show (gI z_1138 42).toInt = (gI z_1129 42).toInt by rw [ez_1138]; rfl)
                  have f_1158 : 0 ≤ (gI z_1142 34).toInt ∧ (gI z_1142 34).toInt ≤ 20 := tz_1142.1 34
                  have q_1159 := (show (gI z_1142 34).toInt = ((gI z_1141 34) + (1 : Int32)).toInt by rw [ez_1142]; rfl)
                  have q_1160 : ((gI z_1141 34) + (1 : Int32)).toInt = ((gI z_1141 34).toInt + (1)) := (a_add rfl (show (1 : Int32).toInt = 1 by decide) (by omega) (by omega))
                  exact hk z_1142 tz_1142 oz_1142 (by omega)
                · skip
                  have i_1161 := i_ne rfl (show (0 : Int32).toInt = 0 by decide) c_1137
                  have f_1162 : 0 ≤ (gI z_1129 34).toInt ∧ (gI z_1129 34).toInt ≤ 20 := tz_1129.1 34
                  have q_1163 := ((((o_1134.fi 34 (by decide))).trans (o_1087.fi 34 (by decide))).trans (o_1072.fi 34 (by decide))).trans (o_1031.fi 34 (by decide))
                  exact hk z_1129 tz_1129 oz_1129 (by omega)
              · skip
                refine ⟨fun c_1059 => ?_, fun c_1059 => ?_⟩
                · skip
                  refine hK_1091  ?_
                  refine hK_1090 ((0 : Int32)) ?_
                  have g_1165 : (0 : Int32).toInt = 0 := by decide
                  have f_1166 : 0 ≤ (gI z_1051 36).toInt ∧ (gI z_1051 36).toInt ≤ 300 := tz_1051.1 36
                  have q_1167 := (((o_1087.fi 36 (by decide))).trans (o_1072.fi 36 (by decide))).trans (o_1031.fi 36 (by decide))
                  refine s_X9_must ((0 : Int32)) z_1051 _ tz_1051 (by omega) (fun z_1164 tz_1164 o_1169 hp_1168 => ?_)
                  have oz_1164 : Same [34, 37, 38, 39, 41, 42] [24] z z_1164 := oz_1051.tr o_1169 (by decide) (by decide)
                  have f_1170 : 0 ≤ (gI z_1164 38).toInt ∧ (gI z_1164 38).toInt ≤ 300 := tz_1164.1 38
                  have f_1171 : 0 ≤ (gI z_1164 42).toInt ∧ (gI z_1164 42).toInt ≤ 1 := tz_1164.1 42
                  refine hK_1075 y_1052 ((0 : Int32)) z_1164 ?_
                  refine ⟨fun c_1172 => ?_, fun c_1172 => ?_⟩
                  · skip
                    have i_1178 := i_eq rfl (show (0 : Int32).toInt = 0 by decide) c_1172
                    have f_1179 : 0 ≤ (gI z_1164 34).toInt ∧ (gI z_1164 34).toInt ≤ 20 := tz_1164.1 34
                    have q_1180 := ((((o_1169.fi 34 (by decide))).trans (o_1087.fi 34 (by decide))).trans (o_1072.fi 34 (by decide))).trans (o_1031.fi 34 (by decide))
                    refine ⟨vin (a_mul (show (4 : Int32).toInt = 4 by decide) rfl (by omega) (by omega)) (by omega) (by omega), ?_⟩
                    intro z_1173 ez_1173
                    have tz_1173 : TM z_1173 := by rw [ez_1173]; exact Ty_wR tz_1164 trivial
                    have oz_1173 : Same [34, 37, 38, 39, 41, 42] [24] z z_1173 := oz_1164.r (by decide) ez_1173
                    have f_1181 : 0 ≤ (gI z_1173 34).toInt ∧ (gI z_1173 34).toInt ≤ 20 := tz_1173.1 34
                    have q_1182 := (((((show (gI z_1173 34).toInt = (gI z_1164 34).toInt by rw [ez_1173]; rfl)).trans (o_1169.fi 34 (by decide))).trans (o_1087.fi 34 (by decide))).trans (o_1072.fi 34 (by decide))).trans (o_1031.fi 34 (by decide))
                    refine ⟨vin (a_add (a_mul (show (4 : Int32).toInt = 4 by decide) rfl (by omega) (by omega)) (show (1 : Int32).toInt = 1 by decide) (by omega) (by omega)) (by omega) (by omega), ?_⟩
                    intro z_1174 ez_1174
                    have tz_1174 : TM z_1174 := by rw [ez_1174]; exact Ty_wR tz_1173 trivial
                    have oz_1174 : Same [34, 37, 38, 39, 41, 42] [24] z z_1174 := oz_1173.r (by decide) ez_1174
                    have f_1183 : 0 ≤ (gI z_1174 34).toInt ∧ (gI z_1174 34).toInt ≤ 20 := tz_1174.1 34
                    have q_1184 := ((((((show (gI z_1174 34).toInt = (gI z_1173 34).toInt by rw [ez_1174]; rfl)).trans (show (gI z_1173 34).toInt = (gI z_1164 34).toInt by rw [ez_1173]; rfl)).trans (o_1169.fi 34 (by decide))).trans (o_1087.fi 34 (by decide))).trans (o_1072.fi 34 (by decide))).trans (o_1031.fi 34 (by decide))
                    refine ⟨vin (a_add (a_mul (show (4 : Int32).toInt = 4 by decide) rfl (by omega) (by omega)) (show (2 : Int32).toInt = 2 by decide) (by omega) (by omega)) (by omega) (by omega), ?_⟩
                    intro z_1175 ez_1175
                    have tz_1175 : TM z_1175 := by rw [ez_1175]; exact Ty_wR tz_1174 trivial
                    have oz_1175 : Same [34, 37, 38, 39, 41, 42] [24] z z_1175 := oz_1174.r (by decide) ez_1175
                    have f_1185 : 0 ≤ (gI z_1175 34).toInt ∧ (gI z_1175 34).toInt ≤ 20 := tz_1175.1 34
                    have q_1186 := (((((((show (gI z_1175 34).toInt = (gI z_1174 34).toInt by rw [ez_1175]; rfl)).trans (show (gI z_1174 34).toInt = (gI z_1173 34).toInt by rw [ez_1174]; rfl)).trans (show (gI z_1173 34).toInt = (gI z_1164 34).toInt by rw [ez_1173]; rfl)).trans (o_1169.fi 34 (by decide))).trans (o_1087.fi 34 (by decide))).trans (o_1072.fi 34 (by decide))).trans (o_1031.fi 34 (by decide))
                    refine ⟨vin (a_add (a_mul (show (4 : Int32).toInt = 4 by decide) rfl (by omega) (by omega)) (show (3 : Int32).toInt = 3 by decide) (by omega) (by omega)) (by omega) (by omega), ?_⟩
                    intro z_1176 ez_1176
                    have tz_1176 : TM z_1176 := by rw [ez_1176]; exact Ty_wR tz_1175 trivial
                    have oz_1176 : Same [34, 37, 38, 39, 41, 42] [24] z z_1176 := oz_1175.r (by decide) ez_1176
                    intro z_1177 ez_1177
                    have f_1187 : 0 ≤ (gI z_1176 34).toInt ∧ (gI z_1176 34).toInt ≤ 20 := tz_1176.1 34
                    have q_1188 := ((((((((show (gI z_1176 34).toInt = (gI z_1175 34).toInt by rw [ez_1176]; rfl)).trans (show (gI z_1175 34).toInt = (gI z_1174 34).toInt by rw [ez_1175]; rfl)).trans (show (gI z_1174 34).toInt = (gI z_1173 34).toInt by rw [ez_1174]; rfl)).trans (show (gI z_1173 34).toInt = (gI z_1164 34).toInt by rw [ez_1173]; rfl)).trans (o_1169.fi 34 (by decide))).trans (o_1087.fi 34 (by decide))).trans (o_1072.fi 34 (by decide))).trans (o_1031.fi 34 (by decide))
                    have tz_1177 : TM z_1177 := by rw [ez_1177]; exact Ty_wI tz_1176 (show 0 ≤ ((gI z_1176 34) + (1 : Int32)).toInt ∧ ((gI z_1176 34) + (1 : Int32)).toInt ≤ 20 from by rw [(a_add rfl (show (1 : Int32).toInt = 1 by decide) (by omega) (by omega))]; omega)
                    have oz_1177 : Same [34, 37, 38, 39, 41, 42] [24] z z_1177 := oz_1176.i (by decide) ez_1177
                    have f_1189 : 0 ≤ (gI z_1177 38).toInt ∧ (gI z_1177 38).toInt ≤ 300 := tz_1177.1 38
                    have q_1190 := (((((show (gI z_1177 38).toInt = (gI z_1176 38).toInt by rw [ez_1177]; rfl)).trans (show (gI z_1176 38).toInt = (gI z_1175 38).toInt by rw [ez_1176]; rfl)).trans (show (gI z_1175 38).toInt = (gI z_1174 38).toInt by rw [ez_1175]; rfl)).trans (show (gI z_1174 38).toInt = (gI z_1173 38).toInt by rw [ez_1174]; rfl)).trans (show (gI z_1173 38).toInt = (gI z_1164 38).toInt by rw [ez_1173]; rfl)
                    have f_1191 : 0 ≤ (gI z_1177 42).toInt ∧ (gI z_1177 42).toInt ≤ 1 := tz_1177.1 42
                    have q_1192 := (((((show (gI z_1177 42).toInt = (gI z_1176 42).toInt by rw [ez_1177]; rfl)).trans (show (gI z_1176 42).toInt = (gI z_1175 42).toInt by rw [ez_1176]; rfl)).trans (show (gI z_1175 42).toInt = (gI z_1174 42).toInt by rw [ez_1175]; rfl)).trans (show (gI z_1174 42).toInt = (gI z_1173 42).toInt by rw [ez_1174]; rfl)).trans (show (gI z_1173 42).toInt = (gI z_1164 42).toInt by rw [ez_1173]; rfl)
                    have f_1193 : 0 ≤ (gI z_1177 34).toInt ∧ (gI z_1177 34).toInt ≤ 20 := tz_1177.1 34
                    have q_1194 := (show (gI z_1177 34).toInt = ((gI z_1176 34) + (1 : Int32)).toInt by rw [ez_1177]; rfl)
                    have q_1195 : ((gI z_1176 34) + (1 : Int32)).toInt = ((gI z_1176 34).toInt + (1)) := (a_add rfl (show (1 : Int32).toInt = 1 by decide) (by omega) (by omega))
                    exact hk z_1177 tz_1177 oz_1177 (by omega)
                  · skip
                    have i_1196 := i_ne rfl (show (0 : Int32).toInt = 0 by decide) c_1172
                    have f_1197 : 0 ≤ (gI z_1164 34).toInt ∧ (gI z_1164 34).toInt ≤ 20 := tz_1164.1 34
                    have q_1198 := ((((o_1169.fi 34 (by decide))).trans (o_1087.fi 34 (by decide))).trans (o_1072.fi 34 (by decide))).trans (o_1031.fi 34 (by decide))
                    exact hk z_1164 tz_1164 oz_1164 (by omega)
                · skip
                  refine hK_1090 ((1 : Int32)) ?_
                  have g_1200 : (1 : Int32).toInt = 1 := by decide
                  have f_1201 : 0 ≤ (gI z_1051 36).toInt ∧ (gI z_1051 36).toInt ≤ 300 := tz_1051.1 36
                  have q_1202 := (((o_1087.fi 36 (by decide))).trans (o_1072.fi 36 (by decide))).trans (o_1031.fi 36 (by decide))
                  refine s_X9_must ((1 : Int32)) z_1051 _ tz_1051 (by omega) (fun z_1199 tz_1199 o_1204 hp_1203 => ?_)
                  have oz_1199 : Same [34, 37, 38, 39, 41, 42] [24] z z_1199 := oz_1051.tr o_1204 (by decide) (by decide)
                  have f_1205 : 0 ≤ (gI z_1199 38).toInt ∧ (gI z_1199 38).toInt ≤ 300 := tz_1199.1 38
                  have f_1206 : 0 ≤ (gI z_1199 42).toInt ∧ (gI z_1199 42).toInt ≤ 1 := tz_1199.1 42
                  refine hK_1075 y_1052 ((0 : Int32)) z_1199 ?_
                  refine ⟨fun c_1207 => ?_, fun c_1207 => ?_⟩
                  · skip
                    have i_1213 := i_eq rfl (show (0 : Int32).toInt = 0 by decide) c_1207
                    have f_1214 : 0 ≤ (gI z_1199 34).toInt ∧ (gI z_1199 34).toInt ≤ 20 := tz_1199.1 34
                    have q_1215 := ((((o_1204.fi 34 (by decide))).trans (o_1087.fi 34 (by decide))).trans (o_1072.fi 34 (by decide))).trans (o_1031.fi 34 (by decide))
                    refine ⟨vin (a_mul (show (4 : Int32).toInt = 4 by decide) rfl (by omega) (by omega)) (by omega) (by omega), ?_⟩
                    intro z_1208 ez_1208
                    have tz_1208 : TM z_1208 := by rw [ez_1208]; exact Ty_wR tz_1199 trivial
                    have oz_1208 : Same [34, 37, 38, 39, 41, 42] [24] z z_1208 := oz_1199.r (by decide) ez_1208
                    have f_1216 : 0 ≤ (gI z_1208 34).toInt ∧ (gI z_1208 34).toInt ≤ 20 := tz_1208.1 34
                    have q_1217 := (((((show (gI z_1208 34).toInt = (gI z_1199 34).toInt by rw [ez_1208]; rfl)).trans (o_1204.fi 34 (by decide))).trans (o_1087.fi 34 (by decide))).trans (o_1072.fi 34 (by decide))).trans (o_1031.fi 34 (by decide))
                    refine ⟨vin (a_add (a_mul (show (4 : Int32).toInt = 4 by decide) rfl (by omega) (by omega)) (show (1 : Int32).toInt = 1 by decide) (by omega) (by omega)) (by omega) (by omega), ?_⟩
                    intro z_1209 ez_1209
                    have tz_1209 : TM z_1209 := by rw [ez_1209]; exact Ty_wR tz_1208 trivial
                    have oz_1209 : Same [34, 37, 38, 39, 41, 42] [24] z z_1209 := oz_1208.r (by decide) ez_1209
                    have f_1218 : 0 ≤ (gI z_1209 34).toInt ∧ (gI z_1209 34).toInt ≤ 20 := tz_1209.1 34
                    have q_1219 := ((((((show (gI z_1209 34).toInt = (gI z_1208 34).toInt by rw [ez_1209]; rfl)).trans (show (gI z_1208 34).toInt = (gI z_1199 34).toInt by rw [ez_1208]; rfl)).trans (o_1204.fi 34 (by decide))).trans (o_1087.fi 34 (by decide))).trans (o_1072.fi 34 (by decide))).trans (o_1031.fi 34 (by decide))
                    refine ⟨vin (a_add (a_mul (show (4 : Int32).toInt = 4 by decide) rfl (by omega) (by omega)) (show (2 : Int32).toInt = 2 by decide) (by omega) (by omega)) (by omega) (by omega), ?_⟩
                    intro z_1210 ez_1210
                    have tz_1210 : TM z_1210 := by rw [ez_1210]; exact Ty_wR tz_1209 trivial
                    have oz_1210 : Same [34, 37, 38, 39, 41, 42] [24] z z_1210 := oz_1209.r (by decide) ez_1210
                    have f_1220 : 0 ≤ (gI z_1210 34).toInt ∧ (gI z_1210 34).toInt ≤ 20 := tz_1210.1 34
                    have q_1221 := (((((((show (gI z_1210 34).toInt = (gI z_1209 34).toInt by rw [ez_1210]; rfl)).trans (show (gI z_1209 34).toInt = (gI z_1208 34).toInt by rw [ez_1209]; rfl)).trans (show (gI z_1208 34).toInt = (gI z_1199 34).toInt by rw [ez_1208]; rfl)).trans (o_1204.fi 34 (by decide))).trans (o_1087.fi 34 (by decide))).trans (o_1072.fi 34 (by decide))).trans (o_1031.fi 34 (by decide))
                    refine ⟨vin (a_add (a_mul (show (4 : Int32).toInt = 4 by decide) rfl (by omega) (by omega)) (show (3 : Int32).toInt = 3 by decide) (by omega) (by omega)) (by omega) (by omega), ?_⟩
                    intro z_1211 ez_1211
                    have tz_1211 : TM z_1211 := by rw [ez_1211]; exact Ty_wR tz_1210 trivial
                    have oz_1211 : Same [34, 37, 38, 39, 41, 42] [24] z z_1211 := oz_1210.r (by decide) ez_1211
                    intro z_1212 ez_1212
                    have f_1222 : 0 ≤ (gI z_1211 34).toInt ∧ (gI z_1211 34).toInt ≤ 20 := tz_1211.1 34
                    have q_1223 := ((((((((show (gI z_1211 34).toInt = (gI z_1210 34).toInt by rw [ez_1211]; rfl)).trans (show (gI z_1210 34).toInt = (gI z_1209 34).toInt by rw [ez_1210]; rfl)).trans (show (gI z_1209 34).toInt = (gI z_1208 34).toInt by rw [ez_1209]; rfl)).trans (show (gI z_1208 34).toInt = (gI z_1199 34).toInt by rw [ez_1208]; rfl)).trans (o_1204.fi 34 (by decide))).trans (o_1087.fi 34 (by decide))).trans (o_1072.fi 34 (by decide))).trans (o_1031.fi 34 (by decide))
                    have tz_1212 : TM z_1212 := by rw [ez_1212]; exact Ty_wI tz_1211 (show 0 ≤ ((gI z_1211 34) + (1 : Int32)).toInt ∧ ((gI z_1211 34) + (1 : Int32)).toInt ≤ 20 from by rw [(a_add rfl (show (1 : Int32).toInt = 1 by decide) (by omega) (by omega))]; omega)
                    have oz_1212 : Same [34, 37, 38, 39, 41, 42] [24] z z_1212 := oz_1211.i (by decide) ez_1212
                    have f_1224 : 0 ≤ (gI z_1212 38).toInt ∧ (gI z_1212 38).toInt ≤ 300 := tz_1212.1 38
                    have q_1225 := (((((show (gI z_1212 38).toInt = (gI z_1211 38).toInt by rw [ez_1212]; rfl)).trans (show (gI z_1211 38).toInt = (gI z_1210 38).toInt by rw [ez_1211]; rfl)).trans (show (gI z_1210 38).toInt = (gI z_1209 38).toInt by rw [ez_1210]; rfl)).trans (show (gI z_1209 38).toInt = (gI z_1208 38).toInt by rw [ez_1209]; rfl)).trans (show (gI z_1208 38).toInt = (gI z_1199 38).toInt by rw [ez_1208]; rfl)
                    have f_1226 : 0 ≤ (gI z_1212 42).toInt ∧ (gI z_1212 42).toInt ≤ 1 := tz_1212.1 42
                    have q_1227 := (((((show (gI z_1212 42).toInt = (gI z_1211 42).toInt by rw [ez_1212]; rfl)).trans (show (gI z_1211 42).toInt = (gI z_1210 42).toInt by rw [ez_1211]; rfl)).trans (show (gI z_1210 42).toInt = (gI z_1209 42).toInt by rw [ez_1210]; rfl)).trans (show (gI z_1209 42).toInt = (gI z_1208 42).toInt by rw [ez_1209]; rfl)).trans (show (gI z_1208 42).toInt = (gI z_1199 42).toInt by rw [ez_1208]; rfl)
                    have f_1228 : 0 ≤ (gI z_1212 34).toInt ∧ (gI z_1212 34).toInt ≤ 20 := tz_1212.1 34
                    have q_1229 := (show (gI z_1212 34).toInt = ((gI z_1211 34) + (1 : Int32)).toInt by rw [ez_1212]; rfl)
                    have q_1230 : ((gI z_1211 34) + (1 : Int32)).toInt = ((gI z_1211 34).toInt + (1)) := (a_add rfl (show (1 : Int32).toInt = 1 by decide) (by omega) (by omega))
                    exact hk z_1212 tz_1212 oz_1212 (by omega)
                  · skip
                    have i_1231 := i_ne rfl (show (0 : Int32).toInt = 0 by decide) c_1207
                    have f_1232 : 0 ≤ (gI z_1199 34).toInt ∧ (gI z_1199 34).toInt ≤ 20 := tz_1199.1 34
                    have q_1233 := ((((o_1204.fi 34 (by decide))).trans (o_1087.fi 34 (by decide))).trans (o_1072.fi 34 (by decide))).trans (o_1031.fi 34 (by decide))
                    exact hk z_1199 tz_1199 oz_1199 (by omega)
          · subst er_1050
            have g_1234 : (0 : Int32).toInt = 0 := by decide
            have f_1235 : 0 ≤ (gI z_1037 36).toInt ∧ (gI z_1037 36).toInt ≤ 300 := tz_1037.1 36
            have q_1236 := ((o_1072.fi 36 (by decide))).trans (o_1031.fi 36 (by decide))
            refine s_X9_must ((0 : Int32)) z_1037 _ tz_1037 (by omega) (fun z_1051 tz_1051 o_1238 hp_1237 => ?_)
            have oz_1051 : Same [34, 37, 38, 39, 41, 42] [24] z z_1051 := oz_1037.tr o_1238 (by decide) (by decide)
            have f_1239 : 0 ≤ (gI z_1051 38).toInt ∧ (gI z_1051 38).toInt ≤ 300 := tz_1051.1 38
            have f_1240 : 0 ≤ (gI z_1051 42).toInt ∧ (gI z_1051 42).toInt ≤ 1 := tz_1051.1 42
            intro y_1052 ey_1052
            have iy_1052 : y_1052.toInt = (Int64.toInt32 (gJ z_1051 40)).toInt := by rw [ey_1052]
            intro K_1053 hK_1241
            intro K_1056 hK_1242
            refine ⟨fun c_1057 => ?_, fun c_1057 => ?_⟩
            · skip
              have i_1243 := i_ne rfl (show (2 : Int32).toInt = 2 by decide) c_1057
              refine hK_1242  ?_
              refine hK_1241 ((0 : Int32)) ?_
              have g_1245 : (0 : Int32).toInt = 0 := by decide
              have f_1246 : 0 ≤ (gI z_1051 36).toInt ∧ (gI z_1051 36).toInt ≤ 300 := tz_1051.1 36
              have q_1247 := (((o_1238.fi 36 (by decide))).trans (o_1072.fi 36 (by decide))).trans (o_1031.fi 36 (by decide))
              refine s_X9_must ((0 : Int32)) z_1051 _ tz_1051 (by omega) (fun z_1244 tz_1244 o_1249 hp_1248 => ?_)
              have oz_1244 : Same [34, 37, 38, 39, 41, 42] [24] z z_1244 := oz_1051.tr o_1249 (by decide) (by decide)
              have f_1250 : 0 ≤ (gI z_1244 38).toInt ∧ (gI z_1244 38).toInt ≤ 300 := tz_1244.1 38
              have f_1251 : 0 ≤ (gI z_1244 42).toInt ∧ (gI z_1244 42).toInt ≤ 1 := tz_1244.1 42
              refine hK_1075 y_1052 ((0 : Int32)) z_1244 ?_
              refine ⟨fun c_1252 => ?_, fun c_1252 => ?_⟩
              · skip
                have i_1258 := i_eq rfl (show (0 : Int32).toInt = 0 by decide) c_1252
                have f_1259 : 0 ≤ (gI z_1244 34).toInt ∧ (gI z_1244 34).toInt ≤ 20 := tz_1244.1 34
                have q_1260 := ((((o_1249.fi 34 (by decide))).trans (o_1238.fi 34 (by decide))).trans (o_1072.fi 34 (by decide))).trans (o_1031.fi 34 (by decide))
                refine ⟨vin (a_mul (show (4 : Int32).toInt = 4 by decide) rfl (by omega) (by omega)) (by omega) (by omega), ?_⟩
                intro z_1253 ez_1253
                have tz_1253 : TM z_1253 := by rw [ez_1253]; exact Ty_wR tz_1244 trivial
                have oz_1253 : Same [34, 37, 38, 39, 41, 42] [24] z z_1253 := oz_1244.r (by decide) ez_1253
                have f_1261 : 0 ≤ (gI z_1253 34).toInt ∧ (gI z_1253 34).toInt ≤ 20 := tz_1253.1 34
                have q_1262 := (((((show (gI z_1253 34).toInt = (gI z_1244 34).toInt by rw [ez_1253]; rfl)).trans (o_1249.fi 34 (by decide))).trans (o_1238.fi 34 (by decide))).trans (o_1072.fi 34 (by decide))).trans (o_1031.fi 34 (by decide))
                refine ⟨vin (a_add (a_mul (show (4 : Int32).toInt = 4 by decide) rfl (by omega) (by omega)) (show (1 : Int32).toInt = 1 by decide) (by omega) (by omega)) (by omega) (by omega), ?_⟩
                intro z_1254 ez_1254
                have tz_1254 : TM z_1254 := by rw [ez_1254]; exact Ty_wR tz_1253 trivial
                have oz_1254 : Same [34, 37, 38, 39, 41, 42] [24] z z_1254 := oz_1253.r (by decide) ez_1254
                have f_1263 : 0 ≤ (gI z_1254 34).toInt ∧ (gI z_1254 34).toInt ≤ 20 := tz_1254.1 34
                have q_1264 := ((((((show (gI z_1254 34).toInt = (gI z_1253 34).toInt by rw [ez_1254]; rfl)).trans (show (gI z_1253 34).toInt = (gI z_1244 34).toInt by rw [ez_1253]; rfl)).trans (o_1249.fi 34 (by decide))).trans (o_1238.fi 34 (by decide))).trans (o_1072.fi 34 (by decide))).trans (o_1031.fi 34 (by decide))
                refine ⟨vin (a_add (a_mul (show (4 : Int32).toInt = 4 by decide) rfl (by omega) (by omega)) (show (2 : Int32).toInt = 2 by decide) (by omega) (by omega)) (by omega) (by omega), ?_⟩
                intro z_1255 ez_1255
                have tz_1255 : TM z_1255 := by rw [ez_1255]; exact Ty_wR tz_1254 trivial
                have oz_1255 : Same [34, 37, 38, 39, 41, 42] [24] z z_1255 := oz_1254.r (by decide) ez_1255
                have f_1265 : 0 ≤ (gI z_1255 34).toInt ∧ (gI z_1255 34).toInt ≤ 20 := tz_1255.1 34
                have q_1266 := (((((((show (gI z_1255 34).toInt = (gI z_1254 34).toInt by rw [ez_1255]; rfl)).trans (show (gI z_1254 34).toInt = (gI z_1253 34).toInt by rw [ez_1254]; rfl)).trans (show (gI z_1253 34).toInt = (gI z_1244 34).toInt by rw [ez_1253]; rfl)).trans (o_1249.fi 34 (by decide))).trans (o_1238.fi 34 (by decide))).trans (o_1072.fi 34 (by decide))).trans (o_1031.fi 34 (by decide))
                refine ⟨vin (a_add (a_mul (show (4 : Int32).toInt = 4 by decide) rfl (by omega) (by omega)) (show (3 : Int32).toInt = 3 by decide) (by omega) (by omega)) (by omega) (by omega), ?_⟩
                intro z_1256 ez_1256
                have tz_1256 : TM z_1256 := by rw [ez_1256]; exact Ty_wR tz_1255 trivial
                have oz_1256 : Same [34, 37, 38, 39, 41, 42] [24] z z_1256 := oz_1255.r (by decide) ez_1256
                intro z_1257 ez_1257
                have f_1267 : 0 ≤ (gI z_1256 34).toInt ∧ (gI z_1256 34).toInt ≤ 20 := tz_1256.1 34
                have q_1268 := ((((((((show (gI z_1256 34).toInt = (gI z_1255 34).toInt by rw [ez_1256]; rfl)).trans (show (gI z_1255 34).toInt = (gI z_1254 34).toInt by rw [ez_1255]; rfl)).trans (show (gI z_1254 34).toInt = (gI z_1253 34).toInt by rw [ez_1254]; rfl)).trans (show (gI z_1253 34).toInt = (gI z_1244 34).toInt by rw [ez_1253]; rfl)).trans (o_1249.fi 34 (by decide))).trans (o_1238.fi 34 (by decide))).trans (o_1072.fi 34 (by decide))).trans (o_1031.fi 34 (by decide))
                have tz_1257 : TM z_1257 := by rw [ez_1257]; exact Ty_wI tz_1256 (show 0 ≤ ((gI z_1256 34) + (1 : Int32)).toInt ∧ ((gI z_1256 34) + (1 : Int32)).toInt ≤ 20 from by rw [(a_add rfl (show (1 : Int32).toInt = 1 by decide) (by omega) (by omega))]; omega)
                have oz_1257 : Same [34, 37, 38, 39, 41, 42] [24] z z_1257 := oz_1256.i (by decide) ez_1257
                have f_1269 : 0 ≤ (gI z_1257 38).toInt ∧ (gI z_1257 38).toInt ≤ 300 := tz_1257.1 38
                have q_1270 := (((((show (gI z_1257 38).toInt = (gI z_1256 38).toInt by rw [ez_1257]; rfl)).trans (show (gI z_1256 38).toInt = (gI z_1255 38).toInt by rw [ez_1256]; rfl)).trans (show (gI z_1255 38).toInt = (gI z_1254 38).toInt by rw [ez_1255]; rfl)).trans (show (gI z_1254 38).toInt = (gI z_1253 38).toInt by rw [ez_1254]; rfl)).trans (show (gI z_1253 38).toInt = (gI z_1244 38).toInt by rw [ez_1253]; rfl)
                have f_1271 : 0 ≤ (gI z_1257 42).toInt ∧ (gI z_1257 42).toInt ≤ 1 := tz_1257.1 42
                have q_1272 := (((((show (gI z_1257 42).toInt = (gI z_1256 42).toInt by rw [ez_1257]; rfl)).trans (show (gI z_1256 42).toInt = (gI z_1255 42).toInt by rw [ez_1256]; rfl)).trans (show (gI z_1255 42).toInt = (gI z_1254 42).toInt by rw [ez_1255]; rfl)).trans (show (gI z_1254 42).toInt = (gI z_1253 42).toInt by rw [ez_1254]; rfl)).trans (show (gI z_1253 42).toInt = (gI z_1244 42).toInt by rw [ez_1253]; rfl)
                have f_1273 : 0 ≤ (gI z_1257 34).toInt ∧ (gI z_1257 34).toInt ≤ 20 := tz_1257.1 34
                have q_1274 := (show (gI z_1257 34).toInt = ((gI z_1256 34) + (1 : Int32)).toInt by rw [ez_1257]; rfl)
                have q_1275 : ((gI z_1256 34) + (1 : Int32)).toInt = ((gI z_1256 34).toInt + (1)) := (a_add rfl (show (1 : Int32).toInt = 1 by decide) (by omega) (by omega))
                exact hk z_1257 tz_1257 oz_1257 (by omega)
              · skip
                have i_1276 := i_ne rfl (show (0 : Int32).toInt = 0 by decide) c_1252
                have f_1277 : 0 ≤ (gI z_1244 34).toInt ∧ (gI z_1244 34).toInt ≤ 20 := tz_1244.1 34
                have q_1278 := ((((o_1249.fi 34 (by decide))).trans (o_1238.fi 34 (by decide))).trans (o_1072.fi 34 (by decide))).trans (o_1031.fi 34 (by decide))
                exact hk z_1244 tz_1244 oz_1244 (by omega)
            · skip
              have i_1279 := i_eq rfl (show (2 : Int32).toInt = 2 by decide) c_1057
              refine ⟨fun c_1058 => ?_, fun c_1058 => ?_⟩
              · skip
                refine hK_1242  ?_
                refine hK_1241 ((0 : Int32)) ?_
                have g_1281 : (0 : Int32).toInt = 0 := by decide
                have f_1282 : 0 ≤ (gI z_1051 36).toInt ∧ (gI z_1051 36).toInt ≤ 300 := tz_1051.1 36
                have q_1283 := (((o_1238.fi 36 (by decide))).trans (o_1072.fi 36 (by decide))).trans (o_1031.fi 36 (by decide))
                refine s_X9_must ((0 : Int32)) z_1051 _ tz_1051 (by omega) (fun z_1280 tz_1280 o_1285 hp_1284 => ?_)
                have oz_1280 : Same [34, 37, 38, 39, 41, 42] [24] z z_1280 := oz_1051.tr o_1285 (by decide) (by decide)
                have f_1286 : 0 ≤ (gI z_1280 38).toInt ∧ (gI z_1280 38).toInt ≤ 300 := tz_1280.1 38
                have f_1287 : 0 ≤ (gI z_1280 42).toInt ∧ (gI z_1280 42).toInt ≤ 1 := tz_1280.1 42
                refine hK_1075 y_1052 ((0 : Int32)) z_1280 ?_
                refine ⟨fun c_1288 => ?_, fun c_1288 => ?_⟩
                · skip
                  have i_1294 := i_eq rfl (show (0 : Int32).toInt = 0 by decide) c_1288
                  have f_1295 : 0 ≤ (gI z_1280 34).toInt ∧ (gI z_1280 34).toInt ≤ 20 := tz_1280.1 34
                  have q_1296 := ((((o_1285.fi 34 (by decide))).trans (o_1238.fi 34 (by decide))).trans (o_1072.fi 34 (by decide))).trans (o_1031.fi 34 (by decide))
                  refine ⟨vin (a_mul (show (4 : Int32).toInt = 4 by decide) rfl (by omega) (by omega)) (by omega) (by omega), ?_⟩
                  intro z_1289 ez_1289
                  have tz_1289 : TM z_1289 := by rw [ez_1289]; exact Ty_wR tz_1280 trivial
                  have oz_1289 : Same [34, 37, 38, 39, 41, 42] [24] z z_1289 := oz_1280.r (by decide) ez_1289
                  have f_1297 : 0 ≤ (gI z_1289 34).toInt ∧ (gI z_1289 34).toInt ≤ 20 := tz_1289.1 34
                  have q_1298 := (((((show (gI z_1289 34).toInt = (gI z_1280 34).toInt by rw [ez_1289]; rfl)).trans (o_1285.fi 34 (by decide))).trans (o_1238.fi 34 (by decide))).trans (o_1072.fi 34 (by decide))).trans (o_1031.fi 34 (by decide))
                  refine ⟨vin (a_add (a_mul (show (4 : Int32).toInt = 4 by decide) rfl (by omega) (by omega)) (show (1 : Int32).toInt = 1 by decide) (by omega) (by omega)) (by omega) (by omega), ?_⟩
                  intro z_1290 ez_1290
                  have tz_1290 : TM z_1290 := by rw [ez_1290]; exact Ty_wR tz_1289 trivial
                  have oz_1290 : Same [34, 37, 38, 39, 41, 42] [24] z z_1290 := oz_1289.r (by decide) ez_1290
                  have f_1299 : 0 ≤ (gI z_1290 34).toInt ∧ (gI z_1290 34).toInt ≤ 20 := tz_1290.1 34
                  have q_1300 := ((((((show (gI z_1290 34).toInt = (gI z_1289 34).toInt by rw [ez_1290]; rfl)).trans (show (gI z_1289 34).toInt = (gI z_1280 34).toInt by rw [ez_1289]; rfl)).trans (o_1285.fi 34 (by decide))).trans (o_1238.fi 34 (by decide))).trans (o_1072.fi 34 (by decide))).trans (o_1031.fi 34 (by decide))
                  refine ⟨vin (a_add (a_mul (show (4 : Int32).toInt = 4 by decide) rfl (by omega) (by omega)) (show (2 : Int32).toInt = 2 by decide) (by omega) (by omega)) (by omega) (by omega), ?_⟩
                  intro z_1291 ez_1291
                  have tz_1291 : TM z_1291 := by rw [ez_1291]; exact Ty_wR tz_1290 trivial
                  have oz_1291 : Same [34, 37, 38, 39, 41, 42] [24] z z_1291 := oz_1290.r (by decide) ez_1291
                  have f_1301 : 0 ≤ (gI z_1291 34).toInt ∧ (gI z_1291 34).toInt ≤ 20 := tz_1291.1 34
                  have q_1302 := (((((((show (gI z_1291 34).toInt = (gI z_1290 34).toInt by rw [ez_1291]; rfl)).trans (show (gI z_1290 34).toInt = (gI z_1289 34).toInt by rw [ez_1290]; rfl)).trans (show (gI z_1289 34).toInt = (gI z_1280 34).toInt by rw [ez_1289]; rfl)).trans (o_1285.fi 34 (by decide))).trans (o_1238.fi 34 (by decide))).trans (o_1072.fi 34 (by decide))).trans (o_1031.fi 34 (by decide))
                  refine ⟨vin (a_add (a_mul (show (4 : Int32).toInt = 4 by decide) rfl (by omega) (by omega)) (show (3 : Int32).toInt = 3 by decide) (by omega) (by omega)) (by omega) (by omega), ?_⟩
                  intro z_1292 ez_1292
                  have tz_1292 : TM z_1292 := by rw [ez_1292]; exact Ty_wR tz_1291 trivial
                  have oz_1292 : Same [34, 37, 38, 39, 41, 42] [24] z z_1292 := oz_1291.r (by decide) ez_1292
                  intro z_1293 ez_1293
                  have f_1303 : 0 ≤ (gI z_1292 34).toInt ∧ (gI z_1292 34).toInt ≤ 20 := tz_1292.1 34
                  have q_1304 := ((((((((show (gI z_1292 34).toInt = (gI z_1291 34).toInt by rw [ez_1292]; rfl)).trans (show (gI z_1291 34).toInt = (gI z_1290 34).toInt by rw [ez_1291]; rfl)).trans (show (gI z_1290 34).toInt = (gI z_1289 34).toInt by rw [ez_1290]; rfl)).trans (show (gI z_1289 34).toInt = (gI z_1280 34).toInt by rw [ez_1289]; rfl)).trans (o_1285.fi 34 (by decide))).trans (o_1238.fi 34 (by decide))).trans (o_1072.fi 34 (by decide))).trans (o_1031.fi 34 (by decide))
                  have tz_1293 : TM z_1293 := by rw [ez_1293]; exact Ty_wI tz_1292 (show 0 ≤ ((gI z_1292 34) + (1 : Int32)).toInt ∧ ((gI z_1292 34) + (1 : Int32)).toInt ≤ 20 from by rw [(a_add rfl (show (1 : Int32).toInt = 1 by decide) (by omega) (by omega))]; omega)
                  have oz_1293 : Same [34, 37, 38, 39, 41, 42] [24] z z_1293 := oz_1292.i (by decide) ez_1293
                  have f_1305 : 0 ≤ (gI z_1293 38).toInt ∧ (gI z_1293 38).toInt ≤ 300 := tz_1293.1 38
                  have q_1306 := (((((show (gI z_1293 38).toInt = (gI z_1292 38).toInt by rw [ez_1293]; rfl)).trans (show (gI z_1292 38).toInt = (gI z_1291 38).toInt by rw [ez_1292]; rfl)).trans (show (gI z_1291 38).toInt = (gI z_1290 38).toInt by rw [ez_1291]; rfl)).trans (show (gI z_1290 38).toInt = (gI z_1289 38).toInt by rw [ez_1290]; rfl)).trans (show (gI z_1289 38).toInt = (gI z_1280 38).toInt by rw [ez_1289]; rfl)
                  have f_1307 : 0 ≤ (gI z_1293 42).toInt ∧ (gI z_1293 42).toInt ≤ 1 := tz_1293.1 42
                  have q_1308 := (((((show (gI z_1293 42).toInt = (gI z_1292 42).toInt by rw [ez_1293]; rfl)).trans (show (gI z_1292 42).toInt = (gI z_1291 42).toInt by rw [ez_1292]; rfl)).trans (show (gI z_1291 42).toInt = (gI z_1290 42).toInt by rw [ez_1291]; rfl)).trans (show (gI z_1290 42).toInt = (gI z_1289 42).toInt by rw [ez_1290]; rfl)).trans (show (gI z_1289 42).toInt = (gI z_1280 42).toInt by rw [ez_1289]; rfl)
                  have f_1309 : 0 ≤ (gI z_1293 34).toInt ∧ (gI z_1293 34).toInt ≤ 20 := tz_1293.1 34
                  have q_1310 := (show (gI z_1293 34).toInt = ((gI z_1292 34) + (1 : Int32)).toInt by rw [ez_1293]; rfl)
                  have q_1311 : ((gI z_1292 34) + (1 : Int32)).toInt = ((gI z_1292 34).toInt + (1)) := (a_add rfl (show (1 : Int32).toInt = 1 by decide) (by omega) (by omega))
                  exact hk z_1293 tz_1293 oz_1293 (by omega)
                · skip
                  have i_1312 := i_ne rfl (show (0 : Int32).toInt = 0 by decide) c_1288
                  have f_1313 : 0 ≤ (gI z_1280 34).toInt ∧ (gI z_1280 34).toInt ≤ 20 := tz_1280.1 34
                  have q_1314 := ((((o_1285.fi 34 (by decide))).trans (o_1238.fi 34 (by decide))).trans (o_1072.fi 34 (by decide))).trans (o_1031.fi 34 (by decide))
                  exact hk z_1280 tz_1280 oz_1280 (by omega)
              · skip
                refine ⟨fun c_1059 => ?_, fun c_1059 => ?_⟩
                · skip
                  refine hK_1242  ?_
                  refine hK_1241 ((0 : Int32)) ?_
                  have g_1316 : (0 : Int32).toInt = 0 := by decide
                  have f_1317 : 0 ≤ (gI z_1051 36).toInt ∧ (gI z_1051 36).toInt ≤ 300 := tz_1051.1 36
                  have q_1318 := (((o_1238.fi 36 (by decide))).trans (o_1072.fi 36 (by decide))).trans (o_1031.fi 36 (by decide))
                  refine s_X9_must ((0 : Int32)) z_1051 _ tz_1051 (by omega) (fun z_1315 tz_1315 o_1320 hp_1319 => ?_)
                  have oz_1315 : Same [34, 37, 38, 39, 41, 42] [24] z z_1315 := oz_1051.tr o_1320 (by decide) (by decide)
                  have f_1321 : 0 ≤ (gI z_1315 38).toInt ∧ (gI z_1315 38).toInt ≤ 300 := tz_1315.1 38
                  have f_1322 : 0 ≤ (gI z_1315 42).toInt ∧ (gI z_1315 42).toInt ≤ 1 := tz_1315.1 42
                  refine hK_1075 y_1052 ((0 : Int32)) z_1315 ?_
                  refine ⟨fun c_1323 => ?_, fun c_1323 => ?_⟩
                  · skip
                    have i_1329 := i_eq rfl (show (0 : Int32).toInt = 0 by decide) c_1323
                    have f_1330 : 0 ≤ (gI z_1315 34).toInt ∧ (gI z_1315 34).toInt ≤ 20 := tz_1315.1 34
                    have q_1331 := ((((o_1320.fi 34 (by decide))).trans (o_1238.fi 34 (by decide))).trans (o_1072.fi 34 (by decide))).trans (o_1031.fi 34 (by decide))
                    refine ⟨vin (a_mul (show (4 : Int32).toInt = 4 by decide) rfl (by omega) (by omega)) (by omega) (by omega), ?_⟩
                    intro z_1324 ez_1324
                    have tz_1324 : TM z_1324 := by rw [ez_1324]; exact Ty_wR tz_1315 trivial
                    have oz_1324 : Same [34, 37, 38, 39, 41, 42] [24] z z_1324 := oz_1315.r (by decide) ez_1324
                    have f_1332 : 0 ≤ (gI z_1324 34).toInt ∧ (gI z_1324 34).toInt ≤ 20 := tz_1324.1 34
                    have q_1333 := (((((show (gI z_1324 34).toInt = (gI z_1315 34).toInt by rw [ez_1324]; rfl)).trans (o_1320.fi 34 (by decide))).trans (o_1238.fi 34 (by decide))).trans (o_1072.fi 34 (by decide))).trans (o_1031.fi 34 (by decide))
                    refine ⟨vin (a_add (a_mul (show (4 : Int32).toInt = 4 by decide) rfl (by omega) (by omega)) (show (1 : Int32).toInt = 1 by decide) (by omega) (by omega)) (by omega) (by omega), ?_⟩
                    intro z_1325 ez_1325
                    have tz_1325 : TM z_1325 := by rw [ez_1325]; exact Ty_wR tz_1324 trivial
                    have oz_1325 : Same [34, 37, 38, 39, 41, 42] [24] z z_1325 := oz_1324.r (by decide) ez_1325
                    have f_1334 : 0 ≤ (gI z_1325 34).toInt ∧ (gI z_1325 34).toInt ≤ 20 := tz_1325.1 34
                    have q_1335 := ((((((show (gI z_1325 34).toInt = (gI z_1324 34).toInt by rw [ez_1325]; rfl)).trans (show (gI z_1324 34).toInt = (gI z_1315 34).toInt by rw [ez_1324]; rfl)).trans (o_1320.fi 34 (by decide))).trans (o_1238.fi 34 (by decide))).trans (o_1072.fi 34 (by decide))).trans (o_1031.fi 34 (by decide))
                    refine ⟨vin (a_add (a_mul (show (4 : Int32).toInt = 4 by decide) rfl (by omega) (by omega)) (show (2 : Int32).toInt = 2 by decide) (by omega) (by omega)) (by omega) (by omega), ?_⟩
                    intro z_1326 ez_1326
                    have tz_1326 : TM z_1326 := by rw [ez_1326]; exact Ty_wR tz_1325 trivial
                    have oz_1326 : Same [34, 37, 38, 39, 41, 42] [24] z z_1326 := oz_1325.r (by decide) ez_1326
                    have f_1336 : 0 ≤ (gI z_1326 34).toInt ∧ (gI z_1326 34).toInt ≤ 20 := tz_1326.1 34
                    have q_1337 := (((((((show (gI z_1326 34).toInt = (gI z_1325 34).toInt by rw [ez_1326]; rfl)).trans (show (gI z_1325 34).toInt = (gI z_1324 34).toInt by rw [ez_1325]; rfl)).trans (show (gI z_1324 34).toInt = (gI z_1315 34).toInt by rw [ez_1324]; rfl)).trans (o_1320.fi 34 (by decide))).trans (o_1238.fi 34 (by decide))).trans (o_1072.fi 34 (by decide))).trans (o_1031.fi 34 (by decide))
                    refine ⟨vin (a_add (a_mul (show (4 : Int32).toInt = 4 by decide) rfl (by omega) (by omega)) (show (3 : Int32).toInt = 3 by decide) (by omega) (by omega)) (by omega) (by omega), ?_⟩
                    intro z_1327 ez_1327
                    have tz_1327 : TM z_1327 := by rw [ez_1327]; exact Ty_wR tz_1326 trivial
                    have oz_1327 : Same [34, 37, 38, 39, 41, 42] [24] z z_1327 := oz_1326.r (by decide) ez_1327
                    intro z_1328 ez_1328
                    have f_1338 : 0 ≤ (gI z_1327 34).toInt ∧ (gI z_1327 34).toInt ≤ 20 := tz_1327.1 34
                    have q_1339 := ((((((((show (gI z_1327 34).toInt = (gI z_1326 34).toInt by rw [ez_1327]; rfl)).trans (show (gI z_1326 34).toInt = (gI z_1325 34).toInt by rw [ez_1326]; rfl)).trans (show (gI z_1325 34).toInt = (gI z_1324 34).toInt by rw [ez_1325]; rfl)).trans (show (gI z_1324 34).toInt = (gI z_1315 34).toInt by rw [ez_1324]; rfl)).trans (o_1320.fi 34 (by decide))).trans (o_1238.fi 34 (by decide))).trans (o_1072.fi 34 (by decide))).trans (o_1031.fi 34 (by decide))
                    have tz_1328 : TM z_1328 := by rw [ez_1328]; exact Ty_wI tz_1327 (show 0 ≤ ((gI z_1327 34) + (1 : Int32)).toInt ∧ ((gI z_1327 34) + (1 : Int32)).toInt ≤ 20 from by rw [(a_add rfl (show (1 : Int32).toInt = 1 by decide) (by omega) (by omega))]; omega)
                    have oz_1328 : Same [34, 37, 38, 39, 41, 42] [24] z z_1328 := oz_1327.i (by decide) ez_1328
                    have f_1340 : 0 ≤ (gI z_1328 38).toInt ∧ (gI z_1328 38).toInt ≤ 300 := tz_1328.1 38
                    have q_1341 := (((((show (gI z_1328 38).toInt = (gI z_1327 38).toInt by rw [ez_1328]; rfl)).trans (show (gI z_1327 38).toInt = (gI z_1326 38).toInt by rw [ez_1327]; rfl)).trans (show (gI z_1326 38).toInt = (gI z_1325 38).toInt by rw [ez_1326]; rfl)).trans (show (gI z_1325 38).toInt = (gI z_1324 38).toInt by rw [ez_1325]; rfl)).trans (show (gI z_1324 38).toInt = (gI z_1315 38).toInt by rw [ez_1324]; rfl)
                    have f_1342 : 0 ≤ (gI z_1328 42).toInt ∧ (gI z_1328 42).toInt ≤ 1 := tz_1328.1 42
                    have q_1343 := (((((show (gI z_1328 42).toInt = (gI z_1327 42).toInt by rw [ez_1328]; rfl)).trans (show (gI z_1327 42).toInt = (gI z_1326 42).toInt by rw [ez_1327]; rfl)).trans (show (gI z_1326 42).toInt = (gI z_1325 42).toInt by rw [ez_1326]; rfl)).trans (show (gI z_1325 42).toInt = (gI z_1324 42).toInt by rw [ez_1325]; rfl)).trans (show (gI z_1324 42).toInt = (gI z_1315 42).toInt by rw [ez_1324]; rfl)
                    have f_1344 : 0 ≤ (gI z_1328 34).toInt ∧ (gI z_1328 34).toInt ≤ 20 := tz_1328.1 34
                    have q_1345 := (show (gI z_1328 34).toInt = ((gI z_1327 34) + (1 : Int32)).toInt by rw [ez_1328]; rfl)
                    have q_1346 : ((gI z_1327 34) + (1 : Int32)).toInt = ((gI z_1327 34).toInt + (1)) := (a_add rfl (show (1 : Int32).toInt = 1 by decide) (by omega) (by omega))
                    exact hk z_1328 tz_1328 oz_1328 (by omega)
                  · skip
                    have i_1347 := i_ne rfl (show (0 : Int32).toInt = 0 by decide) c_1323
                    have f_1348 : 0 ≤ (gI z_1315 34).toInt ∧ (gI z_1315 34).toInt ≤ 20 := tz_1315.1 34
                    have q_1349 := ((((o_1320.fi 34 (by decide))).trans (o_1238.fi 34 (by decide))).trans (o_1072.fi 34 (by decide))).trans (o_1031.fi 34 (by decide))
                    exact hk z_1315 tz_1315 oz_1315 (by omega)
                · skip
                  refine hK_1241 ((1 : Int32)) ?_
                  have g_1351 : (1 : Int32).toInt = 1 := by decide
                  have f_1352 : 0 ≤ (gI z_1051 36).toInt ∧ (gI z_1051 36).toInt ≤ 300 := tz_1051.1 36
                  have q_1353 := (((o_1238.fi 36 (by decide))).trans (o_1072.fi 36 (by decide))).trans (o_1031.fi 36 (by decide))
                  refine s_X9_must ((1 : Int32)) z_1051 _ tz_1051 (by omega) (fun z_1350 tz_1350 o_1355 hp_1354 => ?_)
                  have oz_1350 : Same [34, 37, 38, 39, 41, 42] [24] z z_1350 := oz_1051.tr o_1355 (by decide) (by decide)
                  have f_1356 : 0 ≤ (gI z_1350 38).toInt ∧ (gI z_1350 38).toInt ≤ 300 := tz_1350.1 38
                  have f_1357 : 0 ≤ (gI z_1350 42).toInt ∧ (gI z_1350 42).toInt ≤ 1 := tz_1350.1 42
                  refine hK_1075 y_1052 ((0 : Int32)) z_1350 ?_
                  refine ⟨fun c_1358 => ?_, fun c_1358 => ?_⟩
                  · skip
                    have i_1364 := i_eq rfl (show (0 : Int32).toInt = 0 by decide) c_1358
                    have f_1365 : 0 ≤ (gI z_1350 34).toInt ∧ (gI z_1350 34).toInt ≤ 20 := tz_1350.1 34
                    have q_1366 := ((((o_1355.fi 34 (by decide))).trans (o_1238.fi 34 (by decide))).trans (o_1072.fi 34 (by decide))).trans (o_1031.fi 34 (by decide))
                    refine ⟨vin (a_mul (show (4 : Int32).toInt = 4 by decide) rfl (by omega) (by omega)) (by omega) (by omega), ?_⟩
                    intro z_1359 ez_1359
                    have tz_1359 : TM z_1359 := by rw [ez_1359]; exact Ty_wR tz_1350 trivial
                    have oz_1359 : Same [34, 37, 38, 39, 41, 42] [24] z z_1359 := oz_1350.r (by decide) ez_1359
                    have f_1367 : 0 ≤ (gI z_1359 34).toInt ∧ (gI z_1359 34).toInt ≤ 20 := tz_1359.1 34
                    have q_1368 := (((((show (gI z_1359 34).toInt = (gI z_1350 34).toInt by rw [ez_1359]; rfl)).trans (o_1355.fi 34 (by decide))).trans (o_1238.fi 34 (by decide))).trans (o_1072.fi 34 (by decide))).trans (o_1031.fi 34 (by decide))
                    refine ⟨vin (a_add (a_mul (show (4 : Int32).toInt = 4 by decide) rfl (by omega) (by omega)) (show (1 : Int32).toInt = 1 by decide) (by omega) (by omega)) (by omega) (by omega), ?_⟩
                    intro z_1360 ez_1360
                    have tz_1360 : TM z_1360 := by rw [ez_1360]; exact Ty_wR tz_1359 trivial
                    have oz_1360 : Same [34, 37, 38, 39, 41, 42] [24] z z_1360 := oz_1359.r (by decide) ez_1360
                    have f_1369 : 0 ≤ (gI z_1360 34).toInt ∧ (gI z_1360 34).toInt ≤ 20 := tz_1360.1 34
                    have q_1370 := ((((((show (gI z_1360 34).toInt = (gI z_1359 34).toInt by rw [ez_1360]; rfl)).trans (show (gI z_1359 34).toInt = (gI z_1350 34).toInt by rw [ez_1359]; rfl)).trans (o_1355.fi 34 (by decide))).trans (o_1238.fi 34 (by decide))).trans (o_1072.fi 34 (by decide))).trans (o_1031.fi 34 (by decide))
                    refine ⟨vin (a_add (a_mul (show (4 : Int32).toInt = 4 by decide) rfl (by omega) (by omega)) (show (2 : Int32).toInt = 2 by decide) (by omega) (by omega)) (by omega) (by omega), ?_⟩
                    intro z_1361 ez_1361
                    have tz_1361 : TM z_1361 := by rw [ez_1361]; exact Ty_wR tz_1360 trivial
                    have oz_1361 : Same [34, 37, 38, 39, 41, 42] [24] z z_1361 := oz_1360.r (by decide) ez_1361
                    have f_1371 : 0 ≤ (gI z_1361 34).toInt ∧ (gI z_1361 34).toInt ≤ 20 := tz_1361.1 34
                    have q_1372 := (((((((show (gI z_1361 34).toInt = (gI z_1360 34).toInt by rw [ez_1361]; rfl)).trans (show (gI z_1360 34).toInt = (gI z_1359 34).toInt by rw [ez_1360]; rfl)).trans (show (gI z_1359 34).toInt = (gI z_1350 34).toInt by rw [ez_1359]; rfl)).trans (o_1355.fi 34 (by decide))).trans (o_1238.fi 34 (by decide))).trans (o_1072.fi 34 (by decide))).trans (o_1031.fi 34 (by decide))
                    refine ⟨vin (a_add (a_mul (show (4 : Int32).toInt = 4 by decide) rfl (by omega) (by omega)) (show (3 : Int32).toInt = 3 by decide) (by omega) (by omega)) (by omega) (by omega), ?_⟩
                    intro z_1362 ez_1362
                    have tz_1362 : TM z_1362 := by rw [ez_1362]; exact Ty_wR tz_1361 trivial
                    have oz_1362 : Same [34, 37, 38, 39, 41, 42] [24] z z_1362 := oz_1361.r (by decide) ez_1362
                    intro z_1363 ez_1363
                    have f_1373 : 0 ≤ (gI z_1362 34).toInt ∧ (gI z_1362 34).toInt ≤ 20 := tz_1362.1 34
                    have q_1374 := ((((((((show (gI z_1362 34).toInt = (gI z_1361 34).toInt by rw [ez_1362]; rfl)).trans (show (gI z_1361 34).toInt = (gI z_1360 34).toInt by rw [ez_1361]; rfl)).trans (show (gI z_1360 34).toInt = (gI z_1359 34).toInt by rw [ez_1360]; rfl)).trans (show (gI z_1359 34).toInt = (gI z_1350 34).toInt by rw [ez_1359]; rfl)).trans (o_1355.fi 34 (by decide))).trans (o_1238.fi 34 (by decide))).trans (o_1072.fi 34 (by decide))).trans (o_1031.fi 34 (by decide))
                    have tz_1363 : TM z_1363 := by rw [ez_1363]; exact Ty_wI tz_1362 (show 0 ≤ ((gI z_1362 34) + (1 : Int32)).toInt ∧ ((gI z_1362 34) + (1 : Int32)).toInt ≤ 20 from by rw [(a_add rfl (show (1 : Int32).toInt = 1 by decide) (by omega) (by omega))]; omega)
                    have oz_1363 : Same [34, 37, 38, 39, 41, 42] [24] z z_1363 := oz_1362.i (by decide) ez_1363
                    have f_1375 : 0 ≤ (gI z_1363 38).toInt ∧ (gI z_1363 38).toInt ≤ 300 := tz_1363.1 38
                    have q_1376 := (((((show (gI z_1363 38).toInt = (gI z_1362 38).toInt by rw [ez_1363]; rfl)).trans (show (gI z_1362 38).toInt = (gI z_1361 38).toInt by rw [ez_1362]; rfl)).trans (show (gI z_1361 38).toInt = (gI z_1360 38).toInt by rw [ez_1361]; rfl)).trans (show (gI z_1360 38).toInt = (gI z_1359 38).toInt by rw [ez_1360]; rfl)).trans (show (gI z_1359 38).toInt = (gI z_1350 38).toInt by rw [ez_1359]; rfl)
                    have f_1377 : 0 ≤ (gI z_1363 42).toInt ∧ (gI z_1363 42).toInt ≤ 1 := tz_1363.1 42
                    have q_1378 := (((((show (gI z_1363 42).toInt = (gI z_1362 42).toInt by rw [ez_1363]; rfl)).trans (show (gI z_1362 42).toInt = (gI z_1361 42).toInt by rw [ez_1362]; rfl)).trans (show (gI z_1361 42).toInt = (gI z_1360 42).toInt by rw [ez_1361]; rfl)).trans (show (gI z_1360 42).toInt = (gI z_1359 42).toInt by rw [ez_1360]; rfl)).trans (show (gI z_1359 42).toInt = (gI z_1350 42).toInt by rw [ez_1359]; rfl)
                    have f_1379 : 0 ≤ (gI z_1363 34).toInt ∧ (gI z_1363 34).toInt ≤ 20 := tz_1363.1 34
                    have q_1380 := (show (gI z_1363 34).toInt = ((gI z_1362 34) + (1 : Int32)).toInt by rw [ez_1363]; rfl)
                    have q_1381 : ((gI z_1362 34) + (1 : Int32)).toInt = ((gI z_1362 34).toInt + (1)) := (a_add rfl (show (1 : Int32).toInt = 1 by decide) (by omega) (by omega))
                    exact hk z_1363 tz_1363 oz_1363 (by omega)
                  · skip
                    have i_1382 := i_ne rfl (show (0 : Int32).toInt = 0 by decide) c_1358
                    have f_1383 : 0 ≤ (gI z_1350 34).toInt ∧ (gI z_1350 34).toInt ≤ 20 := tz_1350.1 34
                    have q_1384 := ((((o_1355.fi 34 (by decide))).trans (o_1238.fi 34 (by decide))).trans (o_1072.fi 34 (by decide))).trans (o_1031.fi 34 (by decide))
                    exact hk z_1350 tz_1350 oz_1350 (by omega)
        · skip
          have f_1385 : 0 ≤ (gI z 34).toInt ∧ (gI z 34).toInt ≤ 20 := ht.1 34
          have i_1386 := i_nle (show (20 : Int32).toInt = 20 by decide) rfl c_985
          refine hK_986 ((1 : Int32)) ?_
          have g_1424 : (1 : Int32).toInt = 1 := by decide
          have f_1425 : 0 ≤ (gI z 38).toInt ∧ (gI z 38).toInt ≤ 300 := ht.1 38
          have f_1426 : 0 ≤ (gI z 36).toInt ∧ (gI z 36).toInt ≤ 300 := ht.1 36
          refine s_X9_must ((1 : Int32)) z _ ht (by omega) (fun z_1387 tz_1387 o_1428 hp_1427 => ?_)
          have oz_1387 : Same [34, 37, 38, 39, 41, 42] [24] z z_1387 := (Same.rf (z := z)).tr o_1428 (by decide) (by decide)
          have f_1429 : 0 ≤ (gI z_1387 38).toInt ∧ (gI z_1387 38).toInt ≤ 300 := tz_1387.1 38
          have f_1430 : 0 ≤ (gI z_1387 42).toInt ∧ (gI z_1387 42).toInt ≤ 1 := tz_1387.1 42
          have f_1431 : 0 ≤ (gI z 42).toInt ∧ (gI z 42).toInt ≤ 1 := ht.1 42
          intro K_1388 hK_1432
          refine ⟨fun _ => ?_, fun hc => absurd hc (by decide)⟩
          refine ⟨fun _ => ?_, fun hc => absurd hc (by decide)⟩
          refine hK_1432 ((15 : Int64)) ?_
          have g_1465 : (15 : Int64).toInt = 15 := by decide
          have f_1466 : 0 ≤ (gI z_1387 36).toInt ∧ (gI z_1387 36).toInt ≤ 300 := tz_1387.1 36
          have q_1467 := (o_1428.fi 36 (by decide))
          refine s_X9_number ((15 : Int64)) z_1387 _ tz_1387 (by omega) (fun r_1433 z_1434 tz_1434 o_1469 hp_1468 => ?_)
          have oz_1434 : Same [34, 37, 38, 39, 41, 42] [24] z z_1434 := oz_1387.tr o_1469 (by decide) (by decide)
          have f_1470 : 0 ≤ (gI z_1434 38).toInt ∧ (gI z_1434 38).toInt ≤ 300 := tz_1434.1 38
          have f_1471 : 0 ≤ (gI z_1434 42).toInt ∧ (gI z_1434 42).toInt ≤ 1 := tz_1434.1 42
          intro K_1435 hK_1472
          refine ⟨fun _ => ?_, fun hc => absurd hc (by decide)⟩
          refine ⟨fun hc => absurd hc (by decide), fun _ => ?_⟩
          have g_1473 : (98 : Int32).toInt = 98 := by decide
          have g_1474 : (101 : Int32).toInt = 101 := by decide
          have g_1475 : (102 : Int32).toInt = 102 := by decide
          have g_1476 : (111 : Int32).toInt = 111 := by decide
          have g_1477 : (114 : Int32).toInt = 114 := by decide
          have g_1478 : (101 : Int32).toInt = 101 := by decide
          refine s_X9_isWord ((98 : Int32)) ((101 : Int32)) ((102 : Int32)) ((111 : Int32)) ((114 : Int32)) ((101 : Int32)) z_1434 _ tz_1434  (fun r_1447 hp_1479 => ?_)
          rcases hp_1479 with ⟨er_1447, hp_1479⟩ | ⟨er_1447, hp_1479⟩
          · subst er_1447
            have g_1480 : (1 : Int32).toInt = 1 := by decide
            have f_1481 : 0 ≤ (gI z_1434 36).toInt ∧ (gI z_1434 36).toInt ≤ 300 := tz_1434.1 36
            have q_1482 := ((o_1469.fi 36 (by decide))).trans (o_1428.fi 36 (by decide))
            refine s_X9_must ((1 : Int32)) z_1434 _ tz_1434 (by omega) (fun z_1448 tz_1448 o_1484 hp_1483 => ?_)
            have oz_1448 : Same [34, 37, 38, 39, 41, 42] [24] z z_1448 := oz_1434.tr o_1484 (by decide) (by decide)
            have f_1485 : 0 ≤ (gI z_1448 38).toInt ∧ (gI z_1448 38).toInt ≤ 300 := tz_1448.1 38
            have f_1486 : 0 ≤ (gI z_1448 42).toInt ∧ (gI z_1448 42).toInt ≤ 1 := tz_1448.1 42
            intro y_1449 ey_1449
            have iy_1449 : y_1449.toInt = (Int64.toInt32 (gJ z_1448 40)).toInt := by rw [ey_1449]
            intro K_1450 hK_1487
            intro K_1453 hK_1488
            refine ⟨fun c_1454 => ?_, fun c_1454 => ?_⟩
            · skip
              have i_1489 := i_ne rfl (show (2 : Int32).toInt = 2 by decide) c_1454
              refine hK_1488  ?_
              refine hK_1487 ((0 : Int32)) ?_
              have g_1491 : (0 : Int32).toInt = 0 := by decide
              have f_1492 : 0 ≤ (gI z_1448 36).toInt ∧ (gI z_1448 36).toInt ≤ 300 := tz_1448.1 36
              have q_1493 := (((o_1484.fi 36 (by decide))).trans (o_1469.fi 36 (by decide))).trans (o_1428.fi 36 (by decide))
              refine s_X9_must ((0 : Int32)) z_1448 _ tz_1448 (by omega) (fun z_1490 tz_1490 o_1495 hp_1494 => ?_)
              have oz_1490 : Same [34, 37, 38, 39, 41, 42] [24] z z_1490 := oz_1448.tr o_1495 (by decide) (by decide)
              have f_1496 : 0 ≤ (gI z_1490 38).toInt ∧ (gI z_1490 38).toInt ≤ 300 := tz_1490.1 38
              have f_1497 : 0 ≤ (gI z_1490 42).toInt ∧ (gI z_1490 42).toInt ≤ 1 := tz_1490.1 42
              refine hK_1472 y_1449 ((0 : Int32)) z_1490 ?_
              refine ⟨fun c_1498 => ?_, fun c_1498 => ?_⟩
              · skip
                have i_1504 := i_eq rfl (show (0 : Int32).toInt = 0 by decide) c_1498
                have f_1505 : 0 ≤ (gI z_1490 34).toInt ∧ (gI z_1490 34).toInt ≤ 20 := tz_1490.1 34
                have q_1506 := ((((o_1495.fi 34 (by decide))).trans (o_1484.fi 34 (by decide))).trans (o_1469.fi 34 (by decide))).trans (o_1428.fi 34 (by decide))
                refine ⟨vin (a_mul (show (4 : Int32).toInt = 4 by decide) rfl (by omega) (by omega)) (by omega) (by omega), ?_⟩
                intro z_1499 ez_1499
                have tz_1499 : TM z_1499 := by rw [ez_1499]; exact Ty_wR tz_1490 trivial
                have oz_1499 : Same [34, 37, 38, 39, 41, 42] [24] z z_1499 := oz_1490.r (by decide) ez_1499
                have f_1507 : 0 ≤ (gI z_1499 34).toInt ∧ (gI z_1499 34).toInt ≤ 20 := tz_1499.1 34
                have q_1508 := (((((show (gI z_1499 34).toInt = (gI z_1490 34).toInt by rw [ez_1499]; rfl)).trans (o_1495.fi 34 (by decide))).trans (o_1484.fi 34 (by decide))).trans (o_1469.fi 34 (by decide))).trans (o_1428.fi 34 (by decide))
                refine ⟨vin (a_add (a_mul (show (4 : Int32).toInt = 4 by decide) rfl (by omega) (by omega)) (show (1 : Int32).toInt = 1 by decide) (by omega) (by omega)) (by omega) (by omega), ?_⟩
                intro z_1500 ez_1500
                have tz_1500 : TM z_1500 := by rw [ez_1500]; exact Ty_wR tz_1499 trivial
                have oz_1500 : Same [34, 37, 38, 39, 41, 42] [24] z z_1500 := oz_1499.r (by decide) ez_1500
                have f_1509 : 0 ≤ (gI z_1500 34).toInt ∧ (gI z_1500 34).toInt ≤ 20 := tz_1500.1 34
                have q_1510 := ((((((show (gI z_1500 34).toInt = (gI z_1499 34).toInt by rw [ez_1500]; rfl)).trans (show (gI z_1499 34).toInt = (gI z_1490 34).toInt by rw [ez_1499]; rfl)).trans (o_1495.fi 34 (by decide))).trans (o_1484.fi 34 (by decide))).trans (o_1469.fi 34 (by decide))).trans (o_1428.fi 34 (by decide))
                refine ⟨vin (a_add (a_mul (show (4 : Int32).toInt = 4 by decide) rfl (by omega) (by omega)) (show (2 : Int32).toInt = 2 by decide) (by omega) (by omega)) (by omega) (by omega), ?_⟩
                intro z_1501 ez_1501
                have tz_1501 : TM z_1501 := by rw [ez_1501]; exact Ty_wR tz_1500 trivial
                have oz_1501 : Same [34, 37, 38, 39, 41, 42] [24] z z_1501 := oz_1500.r (by decide) ez_1501
                have f_1511 : 0 ≤ (gI z_1501 34).toInt ∧ (gI z_1501 34).toInt ≤ 20 := tz_1501.1 34
                have q_1512 := (((((((show (gI z_1501 34).toInt = (gI z_1500 34).toInt by rw [ez_1501]; rfl)).trans (show (gI z_1500 34).toInt = (gI z_1499 34).toInt by rw [ez_1500]; rfl)).trans (show (gI z_1499 34).toInt = (gI z_1490 34).toInt by rw [ez_1499]; rfl)).trans (o_1495.fi 34 (by decide))).trans (o_1484.fi 34 (by decide))).trans (o_1469.fi 34 (by decide))).trans (o_1428.fi 34 (by decide))
                refine ⟨vin (a_add (a_mul (show (4 : Int32).toInt = 4 by decide) rfl (by omega) (by omega)) (show (3 : Int32).toInt = 3 by decide) (by omega) (by omega)) (by omega) (by omega), ?_⟩
                intro z_1502 ez_1502
                have tz_1502 : TM z_1502 := by rw [ez_1502]; exact Ty_wR tz_1501 trivial
                have oz_1502 : Same [34, 37, 38, 39, 41, 42] [24] z z_1502 := oz_1501.r (by decide) ez_1502
                intro z_1503 ez_1503
                have f_1513 : 0 ≤ (gI z_1502 34).toInt ∧ (gI z_1502 34).toInt ≤ 20 := tz_1502.1 34
                have q_1514 := ((((((((show (gI z_1502 34).toInt = (gI z_1501 34).toInt by rw [ez_1502]; rfl)).trans (show (gI z_1501 34).toInt = (gI z_1500 34).toInt by rw [ez_1501]; rfl)).trans (show (gI z_1500 34).toInt = (gI z_1499 34).toInt by rw [ez_1500]; rfl)).trans (show (gI z_1499 34).toInt = (gI z_1490 34).toInt by rw [ez_1499]; rfl)).trans (o_1495.fi 34 (by decide))).trans (o_1484.fi 34 (by decide))).trans (o_1469.fi 34 (by decide))).trans (o_1428.fi 34 (by decide))
                have tz_1503 : TM z_1503 := by rw [ez_1503]; exact Ty_wI tz_1502 (show 0 ≤ ((gI z_1502 34) + (1 : Int32)).toInt ∧ ((gI z_1502 34) + (1 : Int32)).toInt ≤ 20 from by rw [(a_add rfl (show (1 : Int32).toInt = 1 by decide) (by omega) (by omega))]; omega)
                have oz_1503 : Same [34, 37, 38, 39, 41, 42] [24] z z_1503 := oz_1502.i (by decide) ez_1503
                have f_1515 : 0 ≤ (gI z_1503 38).toInt ∧ (gI z_1503 38).toInt ≤ 300 := tz_1503.1 38
                have q_1516 := (((((show (gI z_1503 38).toInt = (gI z_1502 38).toInt by rw [ez_1503]; rfl)).trans (show (gI z_1502 38).toInt = (gI z_1501 38).toInt by rw [ez_1502]; rfl)).trans (show (gI z_1501 38).toInt = (gI z_1500 38).toInt by rw [ez_1501]; rfl)).trans (show (gI z_1500 38).toInt = (gI z_1499 38).toInt by rw [ez_1500]; rfl)).trans (show (gI z_1499 38).toInt = (gI z_1490 38).toInt by rw [ez_1499]; rfl)
                have f_1517 : 0 ≤ (gI z_1503 42).toInt ∧ (gI z_1503 42).toInt ≤ 1 := tz_1503.1 42
                have q_1518 := (((((show (gI z_1503 42).toInt = (gI z_1502 42).toInt by rw [ez_1503]; rfl)).trans (show (gI z_1502 42).toInt = (gI z_1501 42).toInt by rw [ez_1502]; rfl)).trans (show (gI z_1501 42).toInt = (gI z_1500 42).toInt by rw [ez_1501]; rfl)).trans (show (gI z_1500 42).toInt = (gI z_1499 42).toInt by rw [ez_1500]; rfl)).trans (show (gI z_1499 42).toInt = (gI z_1490 42).toInt by rw [ez_1499]; rfl)
                have f_1519 : 0 ≤ (gI z_1503 34).toInt ∧ (gI z_1503 34).toInt ≤ 20 := tz_1503.1 34
                have q_1520 := (show (gI z_1503 34).toInt = ((gI z_1502 34) + (1 : Int32)).toInt by rw [ez_1503]; rfl)
                have q_1521 : ((gI z_1502 34) + (1 : Int32)).toInt = ((gI z_1502 34).toInt + (1)) := (a_add rfl (show (1 : Int32).toInt = 1 by decide) (by omega) (by omega))
                exact hk z_1503 tz_1503 oz_1503 (by omega)
              · skip
                have i_1522 := i_ne rfl (show (0 : Int32).toInt = 0 by decide) c_1498
                have f_1523 : 0 ≤ (gI z_1490 34).toInt ∧ (gI z_1490 34).toInt ≤ 20 := tz_1490.1 34
                have q_1524 := ((((o_1495.fi 34 (by decide))).trans (o_1484.fi 34 (by decide))).trans (o_1469.fi 34 (by decide))).trans (o_1428.fi 34 (by decide))
                exact hk z_1490 tz_1490 oz_1490 (by omega)
            · skip
              have i_1525 := i_eq rfl (show (2 : Int32).toInt = 2 by decide) c_1454
              refine ⟨fun c_1455 => ?_, fun c_1455 => ?_⟩
              · skip
                refine hK_1488  ?_
                refine hK_1487 ((0 : Int32)) ?_
                have g_1527 : (0 : Int32).toInt = 0 := by decide
                have f_1528 : 0 ≤ (gI z_1448 36).toInt ∧ (gI z_1448 36).toInt ≤ 300 := tz_1448.1 36
                have q_1529 := (((o_1484.fi 36 (by decide))).trans (o_1469.fi 36 (by decide))).trans (o_1428.fi 36 (by decide))
                refine s_X9_must ((0 : Int32)) z_1448 _ tz_1448 (by omega) (fun z_1526 tz_1526 o_1531 hp_1530 => ?_)
                have oz_1526 : Same [34, 37, 38, 39, 41, 42] [24] z z_1526 := oz_1448.tr o_1531 (by decide) (by decide)
                have f_1532 : 0 ≤ (gI z_1526 38).toInt ∧ (gI z_1526 38).toInt ≤ 300 := tz_1526.1 38
                have f_1533 : 0 ≤ (gI z_1526 42).toInt ∧ (gI z_1526 42).toInt ≤ 1 := tz_1526.1 42
                refine hK_1472 y_1449 ((0 : Int32)) z_1526 ?_
                refine ⟨fun c_1534 => ?_, fun c_1534 => ?_⟩
                · skip
                  have i_1540 := i_eq rfl (show (0 : Int32).toInt = 0 by decide) c_1534
                  have f_1541 : 0 ≤ (gI z_1526 34).toInt ∧ (gI z_1526 34).toInt ≤ 20 := tz_1526.1 34
                  have q_1542 := ((((o_1531.fi 34 (by decide))).trans (o_1484.fi 34 (by decide))).trans (o_1469.fi 34 (by decide))).trans (o_1428.fi 34 (by decide))
                  refine ⟨vin (a_mul (show (4 : Int32).toInt = 4 by decide) rfl (by omega) (by omega)) (by omega) (by omega), ?_⟩
                  intro z_1535 ez_1535
                  have tz_1535 : TM z_1535 := by rw [ez_1535]; exact Ty_wR tz_1526 trivial
                  have oz_1535 : Same [34, 37, 38, 39, 41, 42] [24] z z_1535 := oz_1526.r (by decide) ez_1535
                  have f_1543 : 0 ≤ (gI z_1535 34).toInt ∧ (gI z_1535 34).toInt ≤ 20 := tz_1535.1 34
                  have q_1544 := (((((show (gI z_1535 34).toInt = (gI z_1526 34).toInt by rw [ez_1535]; rfl)).trans (o_1531.fi 34 (by decide))).trans (o_1484.fi 34 (by decide))).trans (o_1469.fi 34 (by decide))).trans (o_1428.fi 34 (by decide))
                  refine ⟨vin (a_add (a_mul (show (4 : Int32).toInt = 4 by decide) rfl (by omega) (by omega)) (show (1 : Int32).toInt = 1 by decide) (by omega) (by omega)) (by omega) (by omega), ?_⟩
                  intro z_1536 ez_1536
                  have tz_1536 : TM z_1536 := by rw [ez_1536]; exact Ty_wR tz_1535 trivial
                  have oz_1536 : Same [34, 37, 38, 39, 41, 42] [24] z z_1536 := oz_1535.r (by decide) ez_1536
                  have f_1545 : 0 ≤ (gI z_1536 34).toInt ∧ (gI z_1536 34).toInt ≤ 20 := tz_1536.1 34
                  have q_1546 := ((((((show (gI z_1536 34).toInt = (gI z_1535 34).toInt by rw [ez_1536]; rfl)).trans (show (gI z_1535 34).toInt = (gI z_1526 34).toInt by rw [ez_1535]; rfl)).trans (o_1531.fi 34 (by decide))).trans (o_1484.fi 34 (by decide))).trans (o_1469.fi 34 (by decide))).trans (o_1428.fi 34 (by decide))
                  refine ⟨vin (a_add (a_mul (show (4 : Int32).toInt = 4 by decide) rfl (by omega) (by omega)) (show (2 : Int32).toInt = 2 by decide) (by omega) (by omega)) (by omega) (by omega), ?_⟩
                  intro z_1537 ez_1537
                  have tz_1537 : TM z_1537 := by rw [ez_1537]; exact Ty_wR tz_1536 trivial
                  have oz_1537 : Same [34, 37, 38, 39, 41, 42] [24] z z_1537 := oz_1536.r (by decide) ez_1537
                  have f_1547 : 0 ≤ (gI z_1537 34).toInt ∧ (gI z_1537 34).toInt ≤ 20 := tz_1537.1 34
                  have q_1548 := (((((((show (gI z_1537 34).toInt = (gI z_1536 34).toInt by rw [ez_1537]; rfl)).trans (show (gI z_1536 34).toInt = (gI z_1535 34).toInt by rw [ez_1536]; rfl)).trans (show (gI z_1535 34).toInt = (gI z_1526 34).toInt by rw [ez_1535]; rfl)).trans (o_1531.fi 34 (by decide))).trans (o_1484.fi 34 (by decide))).trans (o_1469.fi 34 (by decide))).trans (o_1428.fi 34 (by decide))
                  refine ⟨vin (a_add (a_mul (show (4 : Int32).toInt = 4 by decide) rfl (by omega) (by omega)) (show (3 : Int32).toInt = 3 by decide) (by omega) (by omega)) (by omega) (by omega), ?_⟩
                  intro z_1538 ez_1538
                  have tz_1538 : TM z_1538 := by rw [ez_1538]; exact Ty_wR tz_1537 trivial
                  have oz_1538 : Same [34, 37, 38, 39, 41, 42] [24] z z_1538 := oz_1537.r (by decide) ez_1538
                  intro z_1539 ez_1539
                  have f_1549 : 0 ≤ (gI z_1538 34).toInt ∧ (gI z_1538 34).toInt ≤ 20 := tz_1538.1 34
                  have q_1550 := ((((((((show (gI z_1538 34).toInt = (gI z_1537 34).toInt by rw [ez_1538]; rfl)).trans (show (gI z_1537 34).toInt = (gI z_1536 34).toInt by rw [ez_1537]; rfl)).trans (show (gI z_1536 34).toInt = (gI z_1535 34).toInt by rw [ez_1536]; rfl)).trans (show (gI z_1535 34).toInt = (gI z_1526 34).toInt by rw [ez_1535]; rfl)).trans (o_1531.fi 34 (by decide))).trans (o_1484.fi 34 (by decide))).trans (o_1469.fi 34 (by decide))).trans (o_1428.fi 34 (by decide))
                  have tz_1539 : TM z_1539 := by rw [ez_1539]; exact Ty_wI tz_1538 (show 0 ≤ ((gI z_1538 34) + (1 : Int32)).toInt ∧ ((gI z_1538 34) + (1 : Int32)).toInt ≤ 20 from by rw [(a_add rfl (show (1 : Int32).toInt = 1 by decide) (by omega) (by omega))]; omega)
                  have oz_1539 : Same [34, 37, 38, 39, 41, 42] [24] z z_1539 := oz_1538.i (by decide) ez_1539
                  have f_1551 : 0 ≤ (gI z_1539 38).toInt ∧ (gI z_1539 38).toInt ≤ 300 := tz_1539.1 38
                  have q_1552 := (((((show (gI z_1539 38).toInt = (gI z_1538 38).toInt by rw [ez_1539]; rfl)).trans (show (gI z_1538 38).toInt = (gI z_1537 38).toInt by rw [ez_1538]; rfl)).trans (show (gI z_1537 38).toInt = (gI z_1536 38).toInt by rw [ez_1537]; rfl)).trans (show (gI z_1536 38).toInt = (gI z_1535 38).toInt by rw [ez_1536]; rfl)).trans (show (gI z_1535 38).toInt = (gI z_1526 38).toInt by rw [ez_1535]; rfl)
                  have f_1553 : 0 ≤ (gI z_1539 42).toInt ∧ (gI z_1539 42).toInt ≤ 1 := tz_1539.1 42
                  have q_1554 := (((((show (gI z_1539 42).toInt = (gI z_1538 42).toInt by rw [ez_1539]; rfl)).trans (show (gI z_1538 42).toInt = (gI z_1537 42).toInt by rw [ez_1538]; rfl)).trans (show (gI z_1537 42).toInt = (gI z_1536 42).toInt by rw [ez_1537]; rfl)).trans (show (gI z_1536 42).toInt = (gI z_1535 42).toInt by rw [ez_1536]; rfl)).trans (show (gI z_1535 42).toInt = (gI z_1526 42).toInt by rw [ez_1535]; rfl)
                  have f_1555 : 0 ≤ (gI z_1539 34).toInt ∧ (gI z_1539 34).toInt ≤ 20 := tz_1539.1 34
                  have q_1556 := (show (gI z_1539 34).toInt = ((gI z_1538 34) + (1 : Int32)).toInt by rw [ez_1539]; rfl)
                  have q_1557 : ((gI z_1538 34) + (1 : Int32)).toInt = ((gI z_1538 34).toInt + (1)) := (a_add rfl (show (1 : Int32).toInt = 1 by decide) (by omega) (by omega))
                  exact hk z_1539 tz_1539 oz_1539 (by omega)
                · skip
                  have i_1558 := i_ne rfl (show (0 : Int32).toInt = 0 by decide) c_1534
                  have f_1559 : 0 ≤ (gI z_1526 34).toInt ∧ (gI z_1526 34).toInt ≤ 20 := tz_1526.1 34
                  have q_1560 := ((((o_1531.fi 34 (by decide))).trans (o_1484.fi 34 (by decide))).trans (o_1469.fi 34 (by decide))).trans (o_1428.fi 34 (by decide))
                  exact hk z_1526 tz_1526 oz_1526 (by omega)
              · skip
                refine ⟨fun c_1456 => ?_, fun c_1456 => ?_⟩
                · skip
                  refine hK_1488  ?_
                  refine hK_1487 ((0 : Int32)) ?_
                  have g_1562 : (0 : Int32).toInt = 0 := by decide
                  have f_1563 : 0 ≤ (gI z_1448 36).toInt ∧ (gI z_1448 36).toInt ≤ 300 := tz_1448.1 36
                  have q_1564 := (((o_1484.fi 36 (by decide))).trans (o_1469.fi 36 (by decide))).trans (o_1428.fi 36 (by decide))
                  refine s_X9_must ((0 : Int32)) z_1448 _ tz_1448 (by omega) (fun z_1561 tz_1561 o_1566 hp_1565 => ?_)
                  have oz_1561 : Same [34, 37, 38, 39, 41, 42] [24] z z_1561 := oz_1448.tr o_1566 (by decide) (by decide)
                  have f_1567 : 0 ≤ (gI z_1561 38).toInt ∧ (gI z_1561 38).toInt ≤ 300 := tz_1561.1 38
                  have f_1568 : 0 ≤ (gI z_1561 42).toInt ∧ (gI z_1561 42).toInt ≤ 1 := tz_1561.1 42
                  refine hK_1472 y_1449 ((0 : Int32)) z_1561 ?_
                  refine ⟨fun c_1569 => ?_, fun c_1569 => ?_⟩
                  · skip
                    have i_1575 := i_eq rfl (show (0 : Int32).toInt = 0 by decide) c_1569
                    have f_1576 : 0 ≤ (gI z_1561 34).toInt ∧ (gI z_1561 34).toInt ≤ 20 := tz_1561.1 34
                    have q_1577 := ((((o_1566.fi 34 (by decide))).trans (o_1484.fi 34 (by decide))).trans (o_1469.fi 34 (by decide))).trans (o_1428.fi 34 (by decide))
                    refine ⟨vin (a_mul (show (4 : Int32).toInt = 4 by decide) rfl (by omega) (by omega)) (by omega) (by omega), ?_⟩
                    intro z_1570 ez_1570
                    have tz_1570 : TM z_1570 := by rw [ez_1570]; exact Ty_wR tz_1561 trivial
                    have oz_1570 : Same [34, 37, 38, 39, 41, 42] [24] z z_1570 := oz_1561.r (by decide) ez_1570
                    have f_1578 : 0 ≤ (gI z_1570 34).toInt ∧ (gI z_1570 34).toInt ≤ 20 := tz_1570.1 34
                    have q_1579 := (((((show (gI z_1570 34).toInt = (gI z_1561 34).toInt by rw [ez_1570]; rfl)).trans (o_1566.fi 34 (by decide))).trans (o_1484.fi 34 (by decide))).trans (o_1469.fi 34 (by decide))).trans (o_1428.fi 34 (by decide))
                    refine ⟨vin (a_add (a_mul (show (4 : Int32).toInt = 4 by decide) rfl (by omega) (by omega)) (show (1 : Int32).toInt = 1 by decide) (by omega) (by omega)) (by omega) (by omega), ?_⟩
                    intro z_1571 ez_1571
                    have tz_1571 : TM z_1571 := by rw [ez_1571]; exact Ty_wR tz_1570 trivial
                    have oz_1571 : Same [34, 37, 38, 39, 41, 42] [24] z z_1571 := oz_1570.r (by decide) ez_1571
                    have f_1580 : 0 ≤ (gI z_1571 34).toInt ∧ (gI z_1571 34).toInt ≤ 20 := tz_1571.1 34
                    have q_1581 := ((((((show (gI z_1571 34).toInt = (gI z_1570 34).toInt by rw [ez_1571]; rfl)).trans (show (gI z_1570 34).toInt = (gI z_1561 34).toInt by rw [ez_1570]; rfl)).trans (o_1566.fi 34 (by decide))).trans (o_1484.fi 34 (by decide))).trans (o_1469.fi 34 (by decide))).trans (o_1428.fi 34 (by decide))
                    refine ⟨vin (a_add (a_mul (show (4 : Int32).toInt = 4 by decide) rfl (by omega) (by omega)) (show (2 : Int32).toInt = 2 by decide) (by omega) (by omega)) (by omega) (by omega), ?_⟩
                    intro z_1572 ez_1572
                    have tz_1572 : TM z_1572 := by rw [ez_1572]; exact Ty_wR tz_1571 trivial
                    have oz_1572 : Same [34, 37, 38, 39, 41, 42] [24] z z_1572 := oz_1571.r (by decide) ez_1572
                    have f_1582 : 0 ≤ (gI z_1572 34).toInt ∧ (gI z_1572 34).toInt ≤ 20 := tz_1572.1 34
                    have q_1583 := (((((((show (gI z_1572 34).toInt = (gI z_1571 34).toInt by rw [ez_1572]; rfl)).trans (show (gI z_1571 34).toInt = (gI z_1570 34).toInt by rw [ez_1571]; rfl)).trans (show (gI z_1570 34).toInt = (gI z_1561 34).toInt by rw [ez_1570]; rfl)).trans (o_1566.fi 34 (by decide))).trans (o_1484.fi 34 (by decide))).trans (o_1469.fi 34 (by decide))).trans (o_1428.fi 34 (by decide))
                    refine ⟨vin (a_add (a_mul (show (4 : Int32).toInt = 4 by decide) rfl (by omega) (by omega)) (show (3 : Int32).toInt = 3 by decide) (by omega) (by omega)) (by omega) (by omega), ?_⟩
                    intro z_1573 ez_1573
                    have tz_1573 : TM z_1573 := by rw [ez_1573]; exact Ty_wR tz_1572 trivial
                    have oz_1573 : Same [34, 37, 38, 39, 41, 42] [24] z z_1573 := oz_1572.r (by decide) ez_1573
                    intro z_1574 ez_1574
                    have f_1584 : 0 ≤ (gI z_1573 34).toInt ∧ (gI z_1573 34).toInt ≤ 20 := tz_1573.1 34
                    have q_1585 := ((((((((show (gI z_1573 34).toInt = (gI z_1572 34).toInt by rw [ez_1573]; rfl)).trans (show (gI z_1572 34).toInt = (gI z_1571 34).toInt by rw [ez_1572]; rfl)).trans (show (gI z_1571 34).toInt = (gI z_1570 34).toInt by rw [ez_1571]; rfl)).trans (show (gI z_1570 34).toInt = (gI z_1561 34).toInt by rw [ez_1570]; rfl)).trans (o_1566.fi 34 (by decide))).trans (o_1484.fi 34 (by decide))).trans (o_1469.fi 34 (by decide))).trans (o_1428.fi 34 (by decide))
                    have tz_1574 : TM z_1574 := by rw [ez_1574]; exact Ty_wI tz_1573 (show 0 ≤ ((gI z_1573 34) + (1 : Int32)).toInt ∧ ((gI z_1573 34) + (1 : Int32)).toInt ≤ 20 from by rw [(a_add rfl (show (1 : Int32).toInt = 1 by decide) (by omega) (by omega))]; omega)
                    have oz_1574 : Same [34, 37, 38, 39, 41, 42] [24] z z_1574 := oz_1573.i (by decide) ez_1574
                    have f_1586 : 0 ≤ (gI z_1574 38).toInt ∧ (gI z_1574 38).toInt ≤ 300 := tz_1574.1 38
                    have q_1587 := (((((show (gI z_1574 38).toInt = (gI z_1573 38).toInt by rw [ez_1574]; rfl)).trans (show (gI z_1573 38).toInt = (gI z_1572 38).toInt by rw [ez_1573]; rfl)).trans (show (gI z_1572 38).toInt = (gI z_1571 38).toInt by rw [ez_1572]; rfl)).trans (show (gI z_1571 38).toInt = (gI z_1570 38).toInt by rw [ez_1571]; rfl)).trans (show (gI z_1570 38).toInt = (gI z_1561 38).toInt by rw [ez_1570]; rfl)
                    have f_1588 : 0 ≤ (gI z_1574 42).toInt ∧ (gI z_1574 42).toInt ≤ 1 := tz_1574.1 42
                    have q_1589 := (((((show (gI z_1574 42).toInt = (gI z_1573 42).toInt by rw [ez_1574]; rfl)).trans (show (gI z_1573 42).toInt = (gI z_1572 42).toInt by rw [ez_1573]; rfl)).trans (show (gI z_1572 42).toInt = (gI z_1571 42).toInt by rw [ez_1572]; rfl)).trans (show (gI z_1571 42).toInt = (gI z_1570 42).toInt by rw [ez_1571]; rfl)).trans (show (gI z_1570 42).toInt = (gI z_1561 42).toInt by rw [ez_1570]; rfl)
                    have f_1590 : 0 ≤ (gI z_1574 34).toInt ∧ (gI z_1574 34).toInt ≤ 20 := tz_1574.1 34
                    have q_1591 := (show (gI z_1574 34).toInt = ((gI z_1573 34) + (1 : Int32)).toInt by rw [ez_1574]; rfl)
                    have q_1592 : ((gI z_1573 34) + (1 : Int32)).toInt = ((gI z_1573 34).toInt + (1)) := (a_add rfl (show (1 : Int32).toInt = 1 by decide) (by omega) (by omega))
                    exact hk z_1574 tz_1574 oz_1574 (by omega)
                  · skip
                    have i_1593 := i_ne rfl (show (0 : Int32).toInt = 0 by decide) c_1569
                    have f_1594 : 0 ≤ (gI z_1561 34).toInt ∧ (gI z_1561 34).toInt ≤ 20 := tz_1561.1 34
                    have q_1595 := ((((o_1566.fi 34 (by decide))).trans (o_1484.fi 34 (by decide))).trans (o_1469.fi 34 (by decide))).trans (o_1428.fi 34 (by decide))
                    exact hk z_1561 tz_1561 oz_1561 (by omega)
                · skip
                  refine hK_1487 ((1 : Int32)) ?_
                  have g_1597 : (1 : Int32).toInt = 1 := by decide
                  have f_1598 : 0 ≤ (gI z_1448 36).toInt ∧ (gI z_1448 36).toInt ≤ 300 := tz_1448.1 36
                  have q_1599 := (((o_1484.fi 36 (by decide))).trans (o_1469.fi 36 (by decide))).trans (o_1428.fi 36 (by decide))
                  refine s_X9_must ((1 : Int32)) z_1448 _ tz_1448 (by omega) (fun z_1596 tz_1596 o_1601 hp_1600 => ?_)
                  have oz_1596 : Same [34, 37, 38, 39, 41, 42] [24] z z_1596 := oz_1448.tr o_1601 (by decide) (by decide)
                  have f_1602 : 0 ≤ (gI z_1596 38).toInt ∧ (gI z_1596 38).toInt ≤ 300 := tz_1596.1 38
                  have f_1603 : 0 ≤ (gI z_1596 42).toInt ∧ (gI z_1596 42).toInt ≤ 1 := tz_1596.1 42
                  refine hK_1472 y_1449 ((0 : Int32)) z_1596 ?_
                  refine ⟨fun c_1604 => ?_, fun c_1604 => ?_⟩
                  · skip
                    have i_1610 := i_eq rfl (show (0 : Int32).toInt = 0 by decide) c_1604
                    have f_1611 : 0 ≤ (gI z_1596 34).toInt ∧ (gI z_1596 34).toInt ≤ 20 := tz_1596.1 34
                    have q_1612 := ((((o_1601.fi 34 (by decide))).trans (o_1484.fi 34 (by decide))).trans (o_1469.fi 34 (by decide))).trans (o_1428.fi 34 (by decide))
                    refine ⟨vin (a_mul (show (4 : Int32).toInt = 4 by decide) rfl (by omega) (by omega)) (by omega) (by omega), ?_⟩
                    intro z_1605 ez_1605
                    have tz_1605 : TM z_1605 := by rw [ez_1605]; exact Ty_wR tz_1596 trivial
                    have oz_1605 : Same [34, 37, 38, 39, 41, 42] [24] z z_1605 := oz_1596.r (by decide) ez_1605
                    have f_1613 : 0 ≤ (gI z_1605 34).toInt ∧ (gI z_1605 34).toInt ≤ 20 := tz_1605.1 34
                    have q_1614 := (((((show (gI z_1605 34).toInt = (gI z_1596 34).toInt by rw [ez_1605]; rfl)).trans (o_1601.fi 34 (by decide))).trans (o_1484.fi 34 (by decide))).trans (o_1469.fi 34 (by decide))).trans (o_1428.fi 34 (by decide))
                    refine ⟨vin (a_add (a_mul (show (4 : Int32).toInt = 4 by decide) rfl (by omega) (by omega)) (show (1 : Int32).toInt = 1 by decide) (by omega) (by omega)) (by omega) (by omega), ?_⟩
                    intro z_1606 ez_1606
                    have tz_1606 : TM z_1606 := by rw [ez_1606]; exact Ty_wR tz_1605 trivial
                    have oz_1606 : Same [34, 37, 38, 39, 41, 42] [24] z z_1606 := oz_1605.r (by decide) ez_1606
                    have f_1615 : 0 ≤ (gI z_1606 34).toInt ∧ (gI z_1606 34).toInt ≤ 20 := tz_1606.1 34
                    have q_1616 := ((((((show (gI z_1606 34).toInt = (gI z_1605 34).toInt by rw [ez_1606]; rfl)).trans (show (gI z_1605 34).toInt = (gI z_1596 34).toInt by rw [ez_1605]; rfl)).trans (o_1601.fi 34 (by decide))).trans (o_1484.fi 34 (by decide))).trans (o_1469.fi 34 (by decide))).trans (o_1428.fi 34 (by decide))
                    refine ⟨vin (a_add (a_mul (show (4 : Int32).toInt = 4 by decide) rfl (by omega) (by omega)) (show (2 : Int32).toInt = 2 by decide) (by omega) (by omega)) (by omega) (by omega), ?_⟩
                    intro z_1607 ez_1607
                    have tz_1607 : TM z_1607 := by rw [ez_1607]; exact Ty_wR tz_1606 trivial
                    have oz_1607 : Same [34, 37, 38, 39, 41, 42] [24] z z_1607 := oz_1606.r (by decide) ez_1607
                    have f_1617 : 0 ≤ (gI z_1607 34).toInt ∧ (gI z_1607 34).toInt ≤ 20 := tz_1607.1 34
                    have q_1618 := (((((((show (gI z_1607 34).toInt = (gI z_1606 34).toInt by rw [ez_1607]; rfl)).trans (show (gI z_1606 34).toInt = (gI z_1605 34).toInt by rw [ez_1606]; rfl)).trans (show (gI z_1605 34).toInt = (gI z_1596 34).toInt by rw [ez_1605]; rfl)).trans (o_1601.fi 34 (by decide))).trans (o_1484.fi 34 (by decide))).trans (o_1469.fi 34 (by decide))).trans (o_1428.fi 34 (by decide))
                    refine ⟨vin (a_add (a_mul (show (4 : Int32).toInt = 4 by decide) rfl (by omega) (by omega)) (show (3 : Int32).toInt = 3 by decide) (by omega) (by omega)) (by omega) (by omega), ?_⟩
                    intro z_1608 ez_1608
                    have tz_1608 : TM z_1608 := by rw [ez_1608]; exact Ty_wR tz_1607 trivial
                    have oz_1608 : Same [34, 37, 38, 39, 41, 42] [24] z z_1608 := oz_1607.r (by decide) ez_1608
                    intro z_1609 ez_1609
                    have f_1619 : 0 ≤ (gI z_1608 34).toInt ∧ (gI z_1608 34).toInt ≤ 20 := tz_1608.1 34
                    have q_1620 := ((((((((show (gI z_1608 34).toInt = (gI z_1607 34).toInt by rw [ez_1608]; rfl)).trans (show (gI z_1607 34).toInt = (gI z_1606 34).toInt by rw [ez_1607]; rfl)).trans (show (gI z_1606 34).toInt = (gI z_1605 34).toInt by rw [ez_1606]; rfl)).trans (show (gI z_1605 34).toInt = (gI z_1596 34).toInt by rw [ez_1605]; rfl)).trans (o_1601.fi 34 (by decide))).trans (o_1484.fi 34 (by decide))).trans (o_1469.fi 34 (by decide))).trans (o_1428.fi 34 (by decide))
                    have tz_1609 : TM z_1609 := by rw [ez_1609]; exact Ty_wI tz_1608 (show 0 ≤ ((gI z_1608 34) + (1 : Int32)).toInt ∧ ((gI z_1608 34) + (1 : Int32)).toInt ≤ 20 from by rw [(a_add rfl (show (1 : Int32).toInt = 1 by decide) (by omega) (by omega))]; omega)
                    have oz_1609 : Same [34, 37, 38, 39, 41, 42] [24] z z_1609 := oz_1608.i (by decide) ez_1609
                    have f_1621 : 0 ≤ (gI z_1609 38).toInt ∧ (gI z_1609 38).toInt ≤ 300 := tz_1609.1 38
                    have q_1622 := (((((show (gI z_1609 38).toInt = (gI z_1608 38).toInt by rw [ez_1609]; rfl)).trans (show (gI z_1608 38).toInt = (gI z_1607 38).toInt by rw [ez_1608]; rfl)).trans (show (gI z_1607 38).toInt = (gI z_1606 38).toInt by rw [ez_1607]; rfl)).trans (show (gI z_1606 38).toInt = (gI z_1605 38).toInt by rw [ez_1606]; rfl)).trans (show (gI z_1605 38).toInt = (gI z_1596 38).toInt by rw [ez_1605]; rfl)
                    have f_1623 : 0 ≤ (gI z_1609 42).toInt ∧ (gI z_1609 42).toInt ≤ 1 := tz_1609.1 42
                    have q_1624 := (((((show (gI z_1609 42).toInt = (gI z_1608 42).toInt by rw [ez_1609]; rfl)).trans (show (gI z_1608 42).toInt = (gI z_1607 42).toInt by rw [ez_1608]; rfl)).trans (show (gI z_1607 42).toInt = (gI z_1606 42).toInt by rw [ez_1607]; rfl)).trans (show (gI z_1606 42).toInt = (gI z_1605 42).toInt by rw [ez_1606]; rfl)).trans (show (gI z_1605 42).toInt = (gI z_1596 42).toInt by rw [ez_1605]; rfl)
                    have f_1625 : 0 ≤ (gI z_1609 34).toInt ∧ (gI z_1609 34).toInt ≤ 20 := tz_1609.1 34
                    have q_1626 := (show (gI z_1609 34).toInt = ((gI z_1608 34) + (1 : Int32)).toInt by rw [ez_1609]; rfl)
                    have q_1627 : ((gI z_1608 34) + (1 : Int32)).toInt = ((gI z_1608 34).toInt + (1)) := (a_add rfl (show (1 : Int32).toInt = 1 by decide) (by omega) (by omega))
                    exact hk z_1609 tz_1609 oz_1609 (by omega)
                  · skip
                    have i_1628 := i_ne rfl (show (0 : Int32).toInt = 0 by decide) c_1604
                    have f_1629 : 0 ≤ (gI z_1596 34).toInt ∧ (gI z_1596 34).toInt ≤ 20 := tz_1596.1 34
                    have q_1630 := ((((o_1601.fi 34 (by decide))).trans (o_1484.fi 34 (by decide))).trans (o_1469.fi 34 (by decide))).trans (o_1428.fi 34 (by decide))
                    exact hk z_1596 tz_1596 oz_1596 (by omega)
          · subst er_1447
            have g_1631 : (0 : Int32).toInt = 0 := by decide
            have f_1632 : 0 ≤ (gI z_1434 36).toInt ∧ (gI z_1434 36).toInt ≤ 300 := tz_1434.1 36
            have q_1633 := ((o_1469.fi 36 (by decide))).trans (o_1428.fi 36 (by decide))
            refine s_X9_must ((0 : Int32)) z_1434 _ tz_1434 (by omega) (fun z_1448 tz_1448 o_1635 hp_1634 => ?_)
            have oz_1448 : Same [34, 37, 38, 39, 41, 42] [24] z z_1448 := oz_1434.tr o_1635 (by decide) (by decide)
            have f_1636 : 0 ≤ (gI z_1448 38).toInt ∧ (gI z_1448 38).toInt ≤ 300 := tz_1448.1 38
            have f_1637 : 0 ≤ (gI z_1448 42).toInt ∧ (gI z_1448 42).toInt ≤ 1 := tz_1448.1 42
            intro y_1449 ey_1449
            have iy_1449 : y_1449.toInt = (Int64.toInt32 (gJ z_1448 40)).toInt := by rw [ey_1449]
            intro K_1450 hK_1638
            intro K_1453 hK_1639
            refine ⟨fun c_1454 => ?_, fun c_1454 => ?_⟩
            · skip
              have i_1640 := i_ne rfl (show (2 : Int32).toInt = 2 by decide) c_1454
              refine hK_1639  ?_
              refine hK_1638 ((0 : Int32)) ?_
              have g_1642 : (0 : Int32).toInt = 0 := by decide
              have f_1643 : 0 ≤ (gI z_1448 36).toInt ∧ (gI z_1448 36).toInt ≤ 300 := tz_1448.1 36
              have q_1644 := (((o_1635.fi 36 (by decide))).trans (o_1469.fi 36 (by decide))).trans (o_1428.fi 36 (by decide))
              refine s_X9_must ((0 : Int32)) z_1448 _ tz_1448 (by omega) (fun z_1641 tz_1641 o_1646 hp_1645 => ?_)
              have oz_1641 : Same [34, 37, 38, 39, 41, 42] [24] z z_1641 := oz_1448.tr o_1646 (by decide) (by decide)
              have f_1647 : 0 ≤ (gI z_1641 38).toInt ∧ (gI z_1641 38).toInt ≤ 300 := tz_1641.1 38
              have f_1648 : 0 ≤ (gI z_1641 42).toInt ∧ (gI z_1641 42).toInt ≤ 1 := tz_1641.1 42
              refine hK_1472 y_1449 ((0 : Int32)) z_1641 ?_
              refine ⟨fun c_1649 => ?_, fun c_1649 => ?_⟩
              · skip
                have i_1655 := i_eq rfl (show (0 : Int32).toInt = 0 by decide) c_1649
                have f_1656 : 0 ≤ (gI z_1641 34).toInt ∧ (gI z_1641 34).toInt ≤ 20 := tz_1641.1 34
                have q_1657 := ((((o_1646.fi 34 (by decide))).trans (o_1635.fi 34 (by decide))).trans (o_1469.fi 34 (by decide))).trans (o_1428.fi 34 (by decide))
                refine ⟨vin (a_mul (show (4 : Int32).toInt = 4 by decide) rfl (by omega) (by omega)) (by omega) (by omega), ?_⟩
                intro z_1650 ez_1650
                have tz_1650 : TM z_1650 := by rw [ez_1650]; exact Ty_wR tz_1641 trivial
                have oz_1650 : Same [34, 37, 38, 39, 41, 42] [24] z z_1650 := oz_1641.r (by decide) ez_1650
                have f_1658 : 0 ≤ (gI z_1650 34).toInt ∧ (gI z_1650 34).toInt ≤ 20 := tz_1650.1 34
                have q_1659 := (((((show (gI z_1650 34).toInt = (gI z_1641 34).toInt by rw [ez_1650]; rfl)).trans (o_1646.fi 34 (by decide))).trans (o_1635.fi 34 (by decide))).trans (o_1469.fi 34 (by decide))).trans (o_1428.fi 34 (by decide))
                refine ⟨vin (a_add (a_mul (show (4 : Int32).toInt = 4 by decide) rfl (by omega) (by omega)) (show (1 : Int32).toInt = 1 by decide) (by omega) (by omega)) (by omega) (by omega), ?_⟩
                intro z_1651 ez_1651
                have tz_1651 : TM z_1651 := by rw [ez_1651]; exact Ty_wR tz_1650 trivial
                have oz_1651 : Same [34, 37, 38, 39, 41, 42] [24] z z_1651 := oz_1650.r (by decide) ez_1651
                have f_1660 : 0 ≤ (gI z_1651 34).toInt ∧ (gI z_1651 34).toInt ≤ 20 := tz_1651.1 34
                have q_1661 := ((((((show (gI z_1651 34).toInt = (gI z_1650 34).toInt by rw [ez_1651]; rfl)).trans (show (gI z_1650 34).toInt = (gI z_1641 34).toInt by rw [ez_1650]; rfl)).trans (o_1646.fi 34 (by decide))).trans (o_1635.fi 34 (by decide))).trans (o_1469.fi 34 (by decide))).trans (o_1428.fi 34 (by decide))
                refine ⟨vin (a_add (a_mul (show (4 : Int32).toInt = 4 by decide) rfl (by omega) (by omega)) (show (2 : Int32).toInt = 2 by decide) (by omega) (by omega)) (by omega) (by omega), ?_⟩
                intro z_1652 ez_1652
                have tz_1652 : TM z_1652 := by rw [ez_1652]; exact Ty_wR tz_1651 trivial
                have oz_1652 : Same [34, 37, 38, 39, 41, 42] [24] z z_1652 := oz_1651.r (by decide) ez_1652
                have f_1662 : 0 ≤ (gI z_1652 34).toInt ∧ (gI z_1652 34).toInt ≤ 20 := tz_1652.1 34
                have q_1663 := (((((((show (gI z_1652 34).toInt = (gI z_1651 34).toInt by rw [ez_1652]; rfl)).trans (show (gI z_1651 34).toInt = (gI z_1650 34).toInt by rw [ez_1651]; rfl)).trans (show (gI z_1650 34).toInt = (gI z_1641 34).toInt by rw [ez_1650]; rfl)).trans (o_1646.fi 34 (by decide))).trans (o_1635.fi 34 (by decide))).trans (o_1469.fi 34 (by decide))).trans (o_1428.fi 34 (by decide))
                refine ⟨vin (a_add (a_mul (show (4 : Int32).toInt = 4 by decide) rfl (by omega) (by omega)) (show (3 : Int32).toInt = 3 by decide) (by omega) (by omega)) (by omega) (by omega), ?_⟩
                intro z_1653 ez_1653
                have tz_1653 : TM z_1653 := by rw [ez_1653]; exact Ty_wR tz_1652 trivial
                have oz_1653 : Same [34, 37, 38, 39, 41, 42] [24] z z_1653 := oz_1652.r (by decide) ez_1653
                intro z_1654 ez_1654
                have f_1664 : 0 ≤ (gI z_1653 34).toInt ∧ (gI z_1653 34).toInt ≤ 20 := tz_1653.1 34
                have q_1665 := ((((((((show (gI z_1653 34).toInt = (gI z_1652 34).toInt by rw [ez_1653]; rfl)).trans (show (gI z_1652 34).toInt = (gI z_1651 34).toInt by rw [ez_1652]; rfl)).trans (show (gI z_1651 34).toInt = (gI z_1650 34).toInt by rw [ez_1651]; rfl)).trans (show (gI z_1650 34).toInt = (gI z_1641 34).toInt by rw [ez_1650]; rfl)).trans (o_1646.fi 34 (by decide))).trans (o_1635.fi 34 (by decide))).trans (o_1469.fi 34 (by decide))).trans (o_1428.fi 34 (by decide))
                have tz_1654 : TM z_1654 := by rw [ez_1654]; exact Ty_wI tz_1653 (show 0 ≤ ((gI z_1653 34) + (1 : Int32)).toInt ∧ ((gI z_1653 34) + (1 : Int32)).toInt ≤ 20 from by rw [(a_add rfl (show (1 : Int32).toInt = 1 by decide) (by omega) (by omega))]; omega)
                have oz_1654 : Same [34, 37, 38, 39, 41, 42] [24] z z_1654 := oz_1653.i (by decide) ez_1654
                have f_1666 : 0 ≤ (gI z_1654 38).toInt ∧ (gI z_1654 38).toInt ≤ 300 := tz_1654.1 38
                have q_1667 := (((((show (gI z_1654 38).toInt = (gI z_1653 38).toInt by rw [ez_1654]; rfl)).trans (show (gI z_1653 38).toInt = (gI z_1652 38).toInt by rw [ez_1653]; rfl)).trans (show (gI z_1652 38).toInt = (gI z_1651 38).toInt by rw [ez_1652]; rfl)).trans (show (gI z_1651 38).toInt = (gI z_1650 38).toInt by rw [ez_1651]; rfl)).trans (show (gI z_1650 38).toInt = (gI z_1641 38).toInt by rw [ez_1650]; rfl)
                have f_1668 : 0 ≤ (gI z_1654 42).toInt ∧ (gI z_1654 42).toInt ≤ 1 := tz_1654.1 42
                have q_1669 := (((((show (gI z_1654 42).toInt = (gI z_1653 42).toInt by rw [ez_1654]; rfl)).trans (show (gI z_1653 42).toInt = (gI z_1652 42).toInt by rw [ez_1653]; rfl)).trans (show (gI z_1652 42).toInt = (gI z_1651 42).toInt by rw [ez_1652]; rfl)).trans (show (gI z_1651 42).toInt = (gI z_1650 42).toInt by rw [ez_1651]; rfl)).trans (show (gI z_1650 42).toInt = (gI z_1641 42).toInt by rw [ez_1650]; rfl)
                have f_1670 : 0 ≤ (gI z_1654 34).toInt ∧ (gI z_1654 34).toInt ≤ 20 := tz_1654.1 34
                have q_1671 := (show (gI z_1654 34).toInt = ((gI z_1653 34) + (1 : Int32)).toInt by rw [ez_1654]; rfl)
                have q_1672 : ((gI z_1653 34) + (1 : Int32)).toInt = ((gI z_1653 34).toInt + (1)) := (a_add rfl (show (1 : Int32).toInt = 1 by decide) (by omega) (by omega))
                exact hk z_1654 tz_1654 oz_1654 (by omega)
              · skip
                have i_1673 := i_ne rfl (show (0 : Int32).toInt = 0 by decide) c_1649
                have f_1674 : 0 ≤ (gI z_1641 34).toInt ∧ (gI z_1641 34).toInt ≤ 20 := tz_1641.1 34
                have q_1675 := ((((o_1646.fi 34 (by decide))).trans (o_1635.fi 34 (by decide))).trans (o_1469.fi 34 (by decide))).trans (o_1428.fi 34 (by decide))
                exact hk z_1641 tz_1641 oz_1641 (by omega)
            · skip
              have i_1676 := i_eq rfl (show (2 : Int32).toInt = 2 by decide) c_1454
              refine ⟨fun c_1455 => ?_, fun c_1455 => ?_⟩
              · skip
                refine hK_1639  ?_
                refine hK_1638 ((0 : Int32)) ?_
                have g_1678 : (0 : Int32).toInt = 0 := by decide
                have f_1679 : 0 ≤ (gI z_1448 36).toInt ∧ (gI z_1448 36).toInt ≤ 300 := tz_1448.1 36
                have q_1680 := (((o_1635.fi 36 (by decide))).trans (o_1469.fi 36 (by decide))).trans (o_1428.fi 36 (by decide))
                refine s_X9_must ((0 : Int32)) z_1448 _ tz_1448 (by omega) (fun z_1677 tz_1677 o_1682 hp_1681 => ?_)
                have oz_1677 : Same [34, 37, 38, 39, 41, 42] [24] z z_1677 := oz_1448.tr o_1682 (by decide) (by decide)
                have f_1683 : 0 ≤ (gI z_1677 38).toInt ∧ (gI z_1677 38).toInt ≤ 300 := tz_1677.1 38
                have f_1684 : 0 ≤ (gI z_1677 42).toInt ∧ (gI z_1677 42).toInt ≤ 1 := tz_1677.1 42
                refine hK_1472 y_1449 ((0 : Int32)) z_1677 ?_
                refine ⟨fun c_1685 => ?_, fun c_1685 => ?_⟩
                · skip
                  have i_1691 := i_eq rfl (show (0 : Int32).toInt = 0 by decide) c_1685
                  have f_1692 : 0 ≤ (gI z_1677 34).toInt ∧ (gI z_1677 34).toInt ≤ 20 := tz_1677.1 34
                  have q_1693 := ((((o_1682.fi 34 (by decide))).trans (o_1635.fi 34 (by decide))).trans (o_1469.fi 34 (by decide))).trans (o_1428.fi 34 (by decide))
                  refine ⟨vin (a_mul (show (4 : Int32).toInt = 4 by decide) rfl (by omega) (by omega)) (by omega) (by omega), ?_⟩
                  intro z_1686 ez_1686
                  have tz_1686 : TM z_1686 := by rw [ez_1686]; exact Ty_wR tz_1677 trivial
                  have oz_1686 : Same [34, 37, 38, 39, 41, 42] [24] z z_1686 := oz_1677.r (by decide) ez_1686
                  have f_1694 : 0 ≤ (gI z_1686 34).toInt ∧ (gI z_1686 34).toInt ≤ 20 := tz_1686.1 34
                  have q_1695 := (((((show (gI z_1686 34).toInt = (gI z_1677 34).toInt by rw [ez_1686]; rfl)).trans (o_1682.fi 34 (by decide))).trans (o_1635.fi 34 (by decide))).trans (o_1469.fi 34 (by decide))).trans (o_1428.fi 34 (by decide))
                  refine ⟨vin (a_add (a_mul (show (4 : Int32).toInt = 4 by decide) rfl (by omega) (by omega)) (show (1 : Int32).toInt = 1 by decide) (by omega) (by omega)) (by omega) (by omega), ?_⟩
                  intro z_1687 ez_1687
                  have tz_1687 : TM z_1687 := by rw [ez_1687]; exact Ty_wR tz_1686 trivial
                  have oz_1687 : Same [34, 37, 38, 39, 41, 42] [24] z z_1687 := oz_1686.r (by decide) ez_1687
                  have f_1696 : 0 ≤ (gI z_1687 34).toInt ∧ (gI z_1687 34).toInt ≤ 20 := tz_1687.1 34
                  have q_1697 := ((((((show (gI z_1687 34).toInt = (gI z_1686 34).toInt by rw [ez_1687]; rfl)).trans (show (gI z_1686 34).toInt = (gI z_1677 34).toInt by rw [ez_1686]; rfl)).trans (o_1682.fi 34 (by decide))).trans (o_1635.fi 34 (by decide))).trans (o_1469.fi 34 (by decide))).trans (o_1428.fi 34 (by decide))
                  refine ⟨vin (a_add (a_mul (show (4 : Int32).toInt = 4 by decide) rfl (by omega) (by omega)) (show (2 : Int32).toInt = 2 by decide) (by omega) (by omega)) (by omega) (by omega), ?_⟩
                  intro z_1688 ez_1688
                  have tz_1688 : TM z_1688 := by rw [ez_1688]; exact Ty_wR tz_1687 trivial
                  have oz_1688 : Same [34, 37, 38, 39, 41, 42] [24] z z_1688 := oz_1687.r (by decide) ez_1688
                  have f_1698 : 0 ≤ (gI z_1688 34).toInt ∧ (gI z_1688 34).toInt ≤ 20 := tz_1688.1 34
                  have q_1699 := (((((((show (gI z_1688 34).toInt = (gI z_1687 34).toInt by rw [ez_1688]; rfl)).trans (show (gI z_1687 34).toInt = (gI z_1686 34).toInt by rw [ez_1687]; rfl)).trans (show (gI z_1686 34).toInt = (gI z_1677 34).toInt by rw [ez_1686]; rfl)).trans (o_1682.fi 34 (by decide))).trans (o_1635.fi 34 (by decide))).trans (o_1469.fi 34 (by decide))).trans (o_1428.fi 34 (by decide))
                  refine ⟨vin (a_add (a_mul (show (4 : Int32).toInt = 4 by decide) rfl (by omega) (by omega)) (show (3 : Int32).toInt = 3 by decide) (by omega) (by omega)) (by omega) (by omega), ?_⟩
                  intro z_1689 ez_1689
                  have tz_1689 : TM z_1689 := by rw [ez_1689]; exact Ty_wR tz_1688 trivial
                  have oz_1689 : Same [34, 37, 38, 39, 41, 42] [24] z z_1689 := oz_1688.r (by decide) ez_1689
                  intro z_1690 ez_1690
                  have f_1700 : 0 ≤ (gI z_1689 34).toInt ∧ (gI z_1689 34).toInt ≤ 20 := tz_1689.1 34
                  have q_1701 := ((((((((show (gI z_1689 34).toInt = (gI z_1688 34).toInt by rw [ez_1689]; rfl)).trans (show (gI z_1688 34).toInt = (gI z_1687 34).toInt by rw [ez_1688]; rfl)).trans (show (gI z_1687 34).toInt = (gI z_1686 34).toInt by rw [ez_1687]; rfl)).trans (show (gI z_1686 34).toInt = (gI z_1677 34).toInt by rw [ez_1686]; rfl)).trans (o_1682.fi 34 (by decide))).trans (o_1635.fi 34 (by decide))).trans (o_1469.fi 34 (by decide))).trans (o_1428.fi 34 (by decide))
                  have tz_1690 : TM z_1690 := by rw [ez_1690]; exact Ty_wI tz_1689 (show 0 ≤ ((gI z_1689 34) + (1 : Int32)).toInt ∧ ((gI z_1689 34) + (1 : Int32)).toInt ≤ 20 from by rw [(a_add rfl (show (1 : Int32).toInt = 1 by decide) (by omega) (by omega))]; omega)
                  have oz_1690 : Same [34, 37, 38, 39, 41, 42] [24] z z_1690 := oz_1689.i (by decide) ez_1690
                  have f_1702 : 0 ≤ (gI z_1690 38).toInt ∧ (gI z_1690 38).toInt ≤ 300 := tz_1690.1 38
                  have q_1703 := (((((show (gI z_1690 38).toInt = (gI z_1689 38).toInt by rw [ez_1690]; rfl)).trans (show (gI z_1689 38).toInt = (gI z_1688 38).toInt by rw [ez_1689]; rfl)).trans (show (gI z_1688 38).toInt = (gI z_1687 38).toInt by rw [ez_1688]; rfl)).trans (show (gI z_1687 38).toInt = (gI z_1686 38).toInt by rw [ez_1687]; rfl)).trans (show (gI z_1686 38).toInt = (gI z_1677 38).toInt by rw [ez_1686]; rfl)
                  have f_1704 : 0 ≤ (gI z_1690 42).toInt ∧ (gI z_1690 42).toInt ≤ 1 := tz_1690.1 42
                  have q_1705 := (((((show (gI z_1690 42).toInt = (gI z_1689 42).toInt by rw [ez_1690]; rfl)).trans (show (gI z_1689 42).toInt = (gI z_1688 42).toInt by rw [ez_1689]; rfl)).trans (show (gI z_1688 42).toInt = (gI z_1687 42).toInt by rw [ez_1688]; rfl)).trans (show (gI z_1687 42).toInt = (gI z_1686 42).toInt by rw [ez_1687]; rfl)).trans (show (gI z_1686 42).toInt = (gI z_1677 42).toInt by rw [ez_1686]; rfl)
                  have f_1706 : 0 ≤ (gI z_1690 34).toInt ∧ (gI z_1690 34).toInt ≤ 20 := tz_1690.1 34
                  have q_1707 := (show (gI z_1690 34).toInt = ((gI z_1689 34) + (1 : Int32)).toInt by rw [ez_1690]; rfl)
                  have q_1708 : ((gI z_1689 34) + (1 : Int32)).toInt = ((gI z_1689 34).toInt + (1)) := (a_add rfl (show (1 : Int32).toInt = 1 by decide) (by omega) (by omega))
                  exact hk z_1690 tz_1690 oz_1690 (by omega)
                · skip
                  have i_1709 := i_ne rfl (show (0 : Int32).toInt = 0 by decide) c_1685
                  have f_1710 : 0 ≤ (gI z_1677 34).toInt ∧ (gI z_1677 34).toInt ≤ 20 := tz_1677.1 34
                  have q_1711 := ((((o_1682.fi 34 (by decide))).trans (o_1635.fi 34 (by decide))).trans (o_1469.fi 34 (by decide))).trans (o_1428.fi 34 (by decide))
                  exact hk z_1677 tz_1677 oz_1677 (by omega)
              · skip
                refine ⟨fun c_1456 => ?_, fun c_1456 => ?_⟩
                · skip
                  refine hK_1639  ?_
                  refine hK_1638 ((0 : Int32)) ?_
                  have g_1713 : (0 : Int32).toInt = 0 := by decide
                  have f_1714 : 0 ≤ (gI z_1448 36).toInt ∧ (gI z_1448 36).toInt ≤ 300 := tz_1448.1 36
                  have q_1715 := (((o_1635.fi 36 (by decide))).trans (o_1469.fi 36 (by decide))).trans (o_1428.fi 36 (by decide))
                  refine s_X9_must ((0 : Int32)) z_1448 _ tz_1448 (by omega) (fun z_1712 tz_1712 o_1717 hp_1716 => ?_)
                  have oz_1712 : Same [34, 37, 38, 39, 41, 42] [24] z z_1712 := oz_1448.tr o_1717 (by decide) (by decide)
                  have f_1718 : 0 ≤ (gI z_1712 38).toInt ∧ (gI z_1712 38).toInt ≤ 300 := tz_1712.1 38
                  have f_1719 : 0 ≤ (gI z_1712 42).toInt ∧ (gI z_1712 42).toInt ≤ 1 := tz_1712.1 42
                  refine hK_1472 y_1449 ((0 : Int32)) z_1712 ?_
                  refine ⟨fun c_1720 => ?_, fun c_1720 => ?_⟩
                  · skip
                    have i_1726 := i_eq rfl (show (0 : Int32).toInt = 0 by decide) c_1720
                    have f_1727 : 0 ≤ (gI z_1712 34).toInt ∧ (gI z_1712 34).toInt ≤ 20 := tz_1712.1 34
                    have q_1728 := ((((o_1717.fi 34 (by decide))).trans (o_1635.fi 34 (by decide))).trans (o_1469.fi 34 (by decide))).trans (o_1428.fi 34 (by decide))
                    refine ⟨vin (a_mul (show (4 : Int32).toInt = 4 by decide) rfl (by omega) (by omega)) (by omega) (by omega), ?_⟩
                    intro z_1721 ez_1721
                    have tz_1721 : TM z_1721 := by rw [ez_1721]; exact Ty_wR tz_1712 trivial
                    have oz_1721 : Same [34, 37, 38, 39, 41, 42] [24] z z_1721 := oz_1712.r (by decide) ez_1721
                    have f_1729 : 0 ≤ (gI z_1721 34).toInt ∧ (gI z_1721 34).toInt ≤ 20 := tz_1721.1 34
                    have q_1730 := (((((show (gI z_1721 34).toInt = (gI z_1712 34).toInt by rw [ez_1721]; rfl)).trans (o_1717.fi 34 (by decide))).trans (o_1635.fi 34 (by decide))).trans (o_1469.fi 34 (by decide))).trans (o_1428.fi 34 (by decide))
                    refine ⟨vin (a_add (a_mul (show (4 : Int32).toInt = 4 by decide) rfl (by omega) (by omega)) (show (1 : Int32).toInt = 1 by decide) (by omega) (by omega)) (by omega) (by omega), ?_⟩
                    intro z_1722 ez_1722
                    have tz_1722 : TM z_1722 := by rw [ez_1722]; exact Ty_wR tz_1721 trivial
                    have oz_1722 : Same [34, 37, 38, 39, 41, 42] [24] z z_1722 := oz_1721.r (by decide) ez_1722
                    have f_1731 : 0 ≤ (gI z_1722 34).toInt ∧ (gI z_1722 34).toInt ≤ 20 := tz_1722.1 34
                    have q_1732 := ((((((show (gI z_1722 34).toInt = (gI z_1721 34).toInt by rw [ez_1722]; rfl)).trans (show (gI z_1721 34).toInt = (gI z_1712 34).toInt by rw [ez_1721]; rfl)).trans (o_1717.fi 34 (by decide))).trans (o_1635.fi 34 (by decide))).trans (o_1469.fi 34 (by decide))).trans (o_1428.fi 34 (by decide))
                    refine ⟨vin (a_add (a_mul (show (4 : Int32).toInt = 4 by decide) rfl (by omega) (by omega)) (show (2 : Int32).toInt = 2 by decide) (by omega) (by omega)) (by omega) (by omega), ?_⟩
                    intro z_1723 ez_1723
                    have tz_1723 : TM z_1723 := by rw [ez_1723]; exact Ty_wR tz_1722 trivial
                    have oz_1723 : Same [34, 37, 38, 39, 41, 42] [24] z z_1723 := oz_1722.r (by decide) ez_1723
                    have f_1733 : 0 ≤ (gI z_1723 34).toInt ∧ (gI z_1723 34).toInt ≤ 20 := tz_1723.1 34
                    have q_1734 := (((((((show (gI z_1723 34).toInt = (gI z_1722 34).toInt by rw [ez_1723]; rfl)).trans (show (gI z_1722 34).toInt = (gI z_1721 34).toInt by rw [ez_1722]; rfl)).trans (show (gI z_1721 34).toInt = (gI z_1712 34).toInt by rw [ez_1721]; rfl)).trans (o_1717.fi 34 (by decide))).trans (o_1635.fi 34 (by decide))).trans (o_1469.fi 34 (by decide))).trans (o_1428.fi 34 (by decide))
                    refine ⟨vin (a_add (a_mul (show (4 : Int32).toInt = 4 by decide) rfl (by omega) (by omega)) (show (3 : Int32).toInt = 3 by decide) (by omega) (by omega)) (by omega) (by omega), ?_⟩
                    intro z_1724 ez_1724
                    have tz_1724 : TM z_1724 := by rw [ez_1724]; exact Ty_wR tz_1723 trivial
                    have oz_1724 : Same [34, 37, 38, 39, 41, 42] [24] z z_1724 := oz_1723.r (by decide) ez_1724
                    intro z_1725 ez_1725
                    have f_1735 : 0 ≤ (gI z_1724 34).toInt ∧ (gI z_1724 34).toInt ≤ 20 := tz_1724.1 34
                    have q_1736 := ((((((((show (gI z_1724 34).toInt = (gI z_1723 34).toInt by rw [ez_1724]; rfl)).trans (show (gI z_1723 34).toInt = (gI z_1722 34).toInt by rw [ez_1723]; rfl)).trans (show (gI z_1722 34).toInt = (gI z_1721 34).toInt by rw [ez_1722]; rfl)).trans (show (gI z_1721 34).toInt = (gI z_1712 34).toInt by rw [ez_1721]; rfl)).trans (o_1717.fi 34 (by decide))).trans (o_1635.fi 34 (by decide))).trans (o_1469.fi 34 (by decide))).trans (o_1428.fi 34 (by decide))
                    have tz_1725 : TM z_1725 := by rw [ez_1725]; exact Ty_wI tz_1724 (show 0 ≤ ((gI z_1724 34) + (1 : Int32)).toInt ∧ ((gI z_1724 34) + (1 : Int32)).toInt ≤ 20 from by rw [(a_add rfl (show (1 : Int32).toInt = 1 by decide) (by omega) (by omega))]; omega)
                    have oz_1725 : Same [34, 37, 38, 39, 41, 42] [24] z z_1725 := oz_1724.i (by decide) ez_1725
                    have f_1737 : 0 ≤ (gI z_1725 38).toInt ∧ (gI z_1725 38).toInt ≤ 300 := tz_1725.1 38
                    have q_1738 := (((((show (gI z_1725 38).toInt = (gI z_1724 38).toInt by rw [ez_1725]; rfl)).trans (show (gI z_1724 38).toInt = (gI z_1723 38).toInt by rw [ez_1724]; rfl)).trans (show (gI z_1723 38).toInt = (gI z_1722 38).toInt by rw [ez_1723]; rfl)).trans (show (gI z_1722 38).toInt = (gI z_1721 38).toInt by rw [ez_1722]; rfl)).trans (show (gI z_1721 38).toInt = (gI z_1712 38).toInt by rw [ez_1721]; rfl)
                    have f_1739 : 0 ≤ (gI z_1725 42).toInt ∧ (gI z_1725 42).toInt ≤ 1 := tz_1725.1 42
                    have q_1740 := (((((show (gI z_1725 42).toInt = (gI z_1724 42).toInt by rw [ez_1725]; rfl)).trans (show (gI z_1724 42).toInt = (gI z_1723 42).toInt by rw [ez_1724]; rfl)).trans (show (gI z_1723 42).toInt = (gI z_1722 42).toInt by rw [ez_1723]; rfl)).trans (show (gI z_1722 42).toInt = (gI z_1721 42).toInt by rw [ez_1722]; rfl)).trans (show (gI z_1721 42).toInt = (gI z_1712 42).toInt by rw [ez_1721]; rfl)
                    have f_1741 : 0 ≤ (gI z_1725 34).toInt ∧ (gI z_1725 34).toInt ≤ 20 := tz_1725.1 34
                    have q_1742 := (show (gI z_1725 34).toInt = ((gI z_1724 34) + (1 : Int32)).toInt by rw [ez_1725]; rfl)
                    have q_1743 : ((gI z_1724 34) + (1 : Int32)).toInt = ((gI z_1724 34).toInt + (1)) := (a_add rfl (show (1 : Int32).toInt = 1 by decide) (by omega) (by omega))
                    exact hk z_1725 tz_1725 oz_1725 (by omega)
                  · skip
                    have i_1744 := i_ne rfl (show (0 : Int32).toInt = 0 by decide) c_1720
                    have f_1745 : 0 ≤ (gI z_1712 34).toInt ∧ (gI z_1712 34).toInt ≤ 20 := tz_1712.1 34
                    have q_1746 := ((((o_1717.fi 34 (by decide))).trans (o_1635.fi 34 (by decide))).trans (o_1469.fi 34 (by decide))).trans (o_1428.fi 34 (by decide))
                    exact hk z_1712 tz_1712 oz_1712 (by omega)
                · skip
                  refine hK_1638 ((1 : Int32)) ?_
                  have g_1748 : (1 : Int32).toInt = 1 := by decide
                  have f_1749 : 0 ≤ (gI z_1448 36).toInt ∧ (gI z_1448 36).toInt ≤ 300 := tz_1448.1 36
                  have q_1750 := (((o_1635.fi 36 (by decide))).trans (o_1469.fi 36 (by decide))).trans (o_1428.fi 36 (by decide))
                  refine s_X9_must ((1 : Int32)) z_1448 _ tz_1448 (by omega) (fun z_1747 tz_1747 o_1752 hp_1751 => ?_)
                  have oz_1747 : Same [34, 37, 38, 39, 41, 42] [24] z z_1747 := oz_1448.tr o_1752 (by decide) (by decide)
                  have f_1753 : 0 ≤ (gI z_1747 38).toInt ∧ (gI z_1747 38).toInt ≤ 300 := tz_1747.1 38
                  have f_1754 : 0 ≤ (gI z_1747 42).toInt ∧ (gI z_1747 42).toInt ≤ 1 := tz_1747.1 42
                  refine hK_1472 y_1449 ((0 : Int32)) z_1747 ?_
                  refine ⟨fun c_1755 => ?_, fun c_1755 => ?_⟩
                  · skip
                    have i_1761 := i_eq rfl (show (0 : Int32).toInt = 0 by decide) c_1755
                    have f_1762 : 0 ≤ (gI z_1747 34).toInt ∧ (gI z_1747 34).toInt ≤ 20 := tz_1747.1 34
                    have q_1763 := ((((o_1752.fi 34 (by decide))).trans (o_1635.fi 34 (by decide))).trans (o_1469.fi 34 (by decide))).trans (o_1428.fi 34 (by decide))
                    refine ⟨vin (a_mul (show (4 : Int32).toInt = 4 by decide) rfl (by omega) (by omega)) (by omega) (by omega), ?_⟩
                    intro z_1756 ez_1756
                    have tz_1756 : TM z_1756 := by rw [ez_1756]; exact Ty_wR tz_1747 trivial
                    have oz_1756 : Same [34, 37, 38, 39, 41, 42] [24] z z_1756 := oz_1747.r (by decide) ez_1756
                    have f_1764 : 0 ≤ (gI z_1756 34).toInt ∧ (gI z_1756 34).toInt ≤ 20 := tz_1756.1 34
                    have q_1765 := (((((show (gI z_1756 34).toInt = (gI z_1747 34).toInt by rw [ez_1756]; rfl)).trans (o_1752.fi 34 (by decide))).trans (o_1635.fi 34 (by decide))).trans (o_1469.fi 34 (by decide))).trans (o_1428.fi 34 (by decide))
                    refine ⟨vin (a_add (a_mul (show (4 : Int32).toInt = 4 by decide) rfl (by omega) (by omega)) (show (1 : Int32).toInt = 1 by decide) (by omega) (by omega)) (by omega) (by omega), ?_⟩
                    intro z_1757 ez_1757
                    have tz_1757 : TM z_1757 := by rw [ez_1757]; exact Ty_wR tz_1756 trivial
                    have oz_1757 : Same [34, 37, 38, 39, 41, 42] [24] z z_1757 := oz_1756.r (by decide) ez_1757
                    have f_1766 : 0 ≤ (gI z_1757 34).toInt ∧ (gI z_1757 34).toInt ≤ 20 := tz_1757.1 34
                    have q_1767 := ((((((show (gI z_1757 34).toInt = (gI z_1756 34).toInt by rw [ez_1757]; rfl)).trans (show (gI z_1756 34).toInt = (gI z_1747 34).toInt by rw [ez_1756]; rfl)).trans (o_1752.fi 34 (by decide))).trans (o_1635.fi 34 (by decide))).trans (o_1469.fi 34 (by decide))).trans (o_1428.fi 34 (by decide))
                    refine ⟨vin (a_add (a_mul (show (4 : Int32).toInt = 4 by decide) rfl (by omega) (by omega)) (show (2 : Int32).toInt = 2 by decide) (by omega) (by omega)) (by omega) (by omega), ?_⟩
                    intro z_1758 ez_1758
                    have tz_1758 : TM z_1758 := by rw [ez_1758]; exact Ty_wR tz_1757 trivial
                    have oz_1758 : Same [34, 37, 38, 39, 41, 42] [24] z z_1758 := oz_1757.r (by decide) ez_1758
                    have f_1768 : 0 ≤ (gI z_1758 34).toInt ∧ (gI z_1758 34).toInt ≤ 20 := tz_1758.1 34
                    have q_1769 := (((((((show (gI z_1758 34).toInt = (gI z_1757 34).toInt by rw [ez_1758]; rfl)).trans (show (gI z_1757 34).toInt = (gI z_1756 34).toInt by rw [ez_1757]; rfl)).trans (show (gI z_1756 34).toInt = (gI z_1747 34).toInt by rw [ez_1756]; rfl)).trans (o_1752.fi 34 (by decide))).trans (o_1635.fi 34 (by decide))).trans (o_1469.fi 34 (by decide))).trans (o_1428.fi 34 (by decide))
                    refine ⟨vin (a_add (a_mul (show (4 : Int32).toInt = 4 by decide) rfl (by omega) (by omega)) (show (3 : Int32).toInt = 3 by decide) (by omega) (by omega)) (by omega) (by omega), ?_⟩
                    intro z_1759 ez_1759
                    have tz_1759 : TM z_1759 := by rw [ez_1759]; exact Ty_wR tz_1758 trivial
                    have oz_1759 : Same [34, 37, 38, 39, 41, 42] [24] z z_1759 := oz_1758.r (by decide) ez_1759
                    intro z_1760 ez_1760
                    have f_1770 : 0 ≤ (gI z_1759 34).toInt ∧ (gI z_1759 34).toInt ≤ 20 := tz_1759.1 34
                    have q_1771 := ((((((((show (gI z_1759 34).toInt = (gI z_1758 34).toInt by rw [ez_1759]; rfl)).trans (show (gI z_1758 34).toInt = (gI z_1757 34).toInt by rw [ez_1758]; rfl)).trans (show (gI z_1757 34).toInt = (gI z_1756 34).toInt by rw [ez_1757]; rfl)).trans (show (gI z_1756 34).toInt = (gI z_1747 34).toInt by rw [ez_1756]; rfl)).trans (o_1752.fi 34 (by decide))).trans (o_1635.fi 34 (by decide))).trans (o_1469.fi 34 (by decide))).trans (o_1428.fi 34 (by decide))
                    have tz_1760 : TM z_1760 := by rw [ez_1760]; exact Ty_wI tz_1759 (show 0 ≤ ((gI z_1759 34) + (1 : Int32)).toInt ∧ ((gI z_1759 34) + (1 : Int32)).toInt ≤ 20 from by rw [(a_add rfl (show (1 : Int32).toInt = 1 by decide) (by omega) (by omega))]; omega)
                    have oz_1760 : Same [34, 37, 38, 39, 41, 42] [24] z z_1760 := oz_1759.i (by decide) ez_1760
                    have f_1772 : 0 ≤ (gI z_1760 38).toInt ∧ (gI z_1760 38).toInt ≤ 300 := tz_1760.1 38
                    have q_1773 := (((((show (gI z_1760 38).toInt = (gI z_1759 38).toInt by rw [ez_1760]; rfl)).trans (show (gI z_1759 38).toInt = (gI z_1758 38).toInt by rw [ez_1759]; rfl)).trans (show (gI z_1758 38).toInt = (gI z_1757 38).toInt by rw [ez_1758]; rfl)).trans (show (gI z_1757 38).toInt = (gI z_1756 38).toInt by rw [ez_1757]; rfl)).trans (show (gI z_1756 38).toInt = (gI z_1747 38).toInt by rw [ez_1756]; rfl)
                    have f_1774 : 0 ≤ (gI z_1760 42).toInt ∧ (gI z_1760 42).toInt ≤ 1 := tz_1760.1 42
                    have q_1775 := (((((show (gI z_1760 42).toInt = (gI z_1759 42).toInt by rw [ez_1760]; rfl)).trans (show (gI z_1759 42).toInt = (gI z_1758 42).toInt by rw [ez_1759]; rfl)).trans (show (gI z_1758 42).toInt = (gI z_1757 42).toInt by rw [ez_1758]; rfl)).trans (show (gI z_1757 42).toInt = (gI z_1756 42).toInt by rw [ez_1757]; rfl)).trans (show (gI z_1756 42).toInt = (gI z_1747 42).toInt by rw [ez_1756]; rfl)
                    have f_1776 : 0 ≤ (gI z_1760 34).toInt ∧ (gI z_1760 34).toInt ≤ 20 := tz_1760.1 34
                    have q_1777 := (show (gI z_1760 34).toInt = ((gI z_1759 34) + (1 : Int32)).toInt by rw [ez_1760]; rfl)
                    have q_1778 : ((gI z_1759 34) + (1 : Int32)).toInt = ((gI z_1759 34).toInt + (1)) := (a_add rfl (show (1 : Int32).toInt = 1 by decide) (by omega) (by omega))
                    exact hk z_1760 tz_1760 oz_1760 (by omega)
                  · skip
                    have i_1779 := i_ne rfl (show (0 : Int32).toInt = 0 by decide) c_1755
                    have f_1780 : 0 ≤ (gI z_1747 34).toInt ∧ (gI z_1747 34).toInt ≤ 20 := tz_1747.1 34
                    have q_1781 := ((((o_1752.fi 34 (by decide))).trans (o_1635.fi 34 (by decide))).trans (o_1469.fi 34 (by decide))).trans (o_1428.fi 34 (by decide))
                    exact hk z_1747 tz_1747 oz_1747 (by omega)
      · subst er60
        refine ⟨fun _ => ?_, fun hc => absurd (show ((0 : Int32)) = ((0 : Int32)) by decide) hc⟩
        refine hK_655 ((-1 : Int32)) ?_
        intro K_1782 hK_1824
        intro K_1821 hK_1825
        refine ⟨fun _ => ?_, fun hc => absurd (show ((-1 : Int32)) < ((0 : Int32)) by decide) hc⟩
        refine hK_1825  ?_
        refine hK_1824 ((0 : Int32)) ?_
        have g_1863 : (0 : Int32).toInt = 0 := by decide
        have f_1864 : 0 ≤ (gI z 38).toInt ∧ (gI z 38).toInt ≤ 300 := ht.1 38
        have f_1865 : 0 ≤ (gI z 36).toInt ∧ (gI z 36).toInt ≤ 300 := ht.1 36
        refine s_X9_must ((0 : Int32)) z _ ht (by omega) (fun z_1826 tz_1826 o_1867 hp_1866 => ?_)
        have oz_1826 : Same [34, 37, 38, 39, 41, 42] [24] z z_1826 := (Same.rf (z := z)).tr o_1867 (by decide) (by decide)
        have f_1868 : 0 ≤ (gI z_1826 38).toInt ∧ (gI z_1826 38).toInt ≤ 300 := tz_1826.1 38
        have f_1869 : 0 ≤ (gI z_1826 42).toInt ∧ (gI z_1826 42).toInt ≤ 1 := tz_1826.1 42
        have f_1870 : 0 ≤ (gI z 42).toInt ∧ (gI z 42).toInt ≤ 1 := ht.1 42
        intro K_1827 hK_1871
        refine ⟨fun _ => ?_, fun hc => absurd hc (by decide)⟩
        refine ⟨fun _ => ?_, fun hc => absurd hc (by decide)⟩
        refine hK_1871 ((15 : Int64)) ?_
        have g_1904 : (15 : Int64).toInt = 15 := by decide
        have f_1905 : 0 ≤ (gI z_1826 36).toInt ∧ (gI z_1826 36).toInt ≤ 300 := tz_1826.1 36
        have q_1906 := (o_1867.fi 36 (by decide))
        refine s_X9_number ((15 : Int64)) z_1826 _ tz_1826 (by omega) (fun r_1872 z_1873 tz_1873 o_1908 hp_1907 => ?_)
        have oz_1873 : Same [34, 37, 38, 39, 41, 42] [24] z z_1873 := oz_1826.tr o_1908 (by decide) (by decide)
        have f_1909 : 0 ≤ (gI z_1873 38).toInt ∧ (gI z_1873 38).toInt ≤ 300 := tz_1873.1 38
        have f_1910 : 0 ≤ (gI z_1873 42).toInt ∧ (gI z_1873 42).toInt ≤ 1 := tz_1873.1 42
        intro K_1874 hK_1911
        refine ⟨fun _ => ?_, fun hc => absurd hc (by decide)⟩
        refine ⟨fun _ => ?_, fun hc => absurd hc (by decide)⟩
        refine hK_1911 ((0 : Int32)) ((0 : Int32)) z_1873 ?_
        refine ⟨fun c_1912 => ?_, fun c_1912 => ?_⟩
        · skip
          have i_1918 := i_eq rfl (show (0 : Int32).toInt = 0 by decide) c_1912
          have f_1919 : 0 ≤ (gI z_1873 34).toInt ∧ (gI z_1873 34).toInt ≤ 20 := tz_1873.1 34
          have q_1920 := ((o_1908.fi 34 (by decide))).trans (o_1867.fi 34 (by decide))
          have f_1921 : 0 ≤ (gI z 34).toInt ∧ (gI z 34).toInt ≤ 20 := ht.1 34
          refine ⟨vin (a_mul (show (4 : Int32).toInt = 4 by decide) rfl (by omega) (by omega)) (by omega) (by omega), ?_⟩
          intro z_1913 ez_1913
          have tz_1913 : TM z_1913 := by rw [ez_1913]; exact Ty_wR tz_1873 trivial
          have oz_1913 : Same [34, 37, 38, 39, 41, 42] [24] z z_1913 := oz_1873.r (by decide) ez_1913
          have f_1922 : 0 ≤ (gI z_1913 34).toInt ∧ (gI z_1913 34).toInt ≤ 20 := tz_1913.1 34
          have q_1923 := (((show (gI z_1913 34).toInt = (gI z_1873 34).toInt by rw [ez_1913]; rfl)).trans (o_1908.fi 34 (by decide))).trans (o_1867.fi 34 (by decide))
          refine ⟨vin (a_add (a_mul (show (4 : Int32).toInt = 4 by decide) rfl (by omega) (by omega)) (show (1 : Int32).toInt = 1 by decide) (by omega) (by omega)) (by omega) (by omega), ?_⟩
          intro z_1914 ez_1914
          have tz_1914 : TM z_1914 := by rw [ez_1914]; exact Ty_wR tz_1913 trivial
          have oz_1914 : Same [34, 37, 38, 39, 41, 42] [24] z z_1914 := oz_1913.r (by decide) ez_1914
          have f_1924 : 0 ≤ (gI z_1914 34).toInt ∧ (gI z_1914 34).toInt ≤ 20 := tz_1914.1 34
          have q_1925 := ((((show (gI z_1914 34).toInt = (gI z_1913 34).toInt by rw [ez_1914]; rfl)).trans (show (gI z_1913 34).toInt = (gI z_1873 34).toInt by rw [ez_1913]; rfl)).trans (o_1908.fi 34 (by decide))).trans (o_1867.fi 34 (by decide))
          refine ⟨vin (a_add (a_mul (show (4 : Int32).toInt = 4 by decide) rfl (by omega) (by omega)) (show (2 : Int32).toInt = 2 by decide) (by omega) (by omega)) (by omega) (by omega), ?_⟩
          intro z_1915 ez_1915
          have tz_1915 : TM z_1915 := by rw [ez_1915]; exact Ty_wR tz_1914 trivial
          have oz_1915 : Same [34, 37, 38, 39, 41, 42] [24] z z_1915 := oz_1914.r (by decide) ez_1915
          have f_1926 : 0 ≤ (gI z_1915 34).toInt ∧ (gI z_1915 34).toInt ≤ 20 := tz_1915.1 34
          have q_1927 := (((((show (gI z_1915 34).toInt = (gI z_1914 34).toInt by rw [ez_1915]; rfl)).trans (show (gI z_1914 34).toInt = (gI z_1913 34).toInt by rw [ez_1914]; rfl)).trans (show (gI z_1913 34).toInt = (gI z_1873 34).toInt by rw [ez_1913]; rfl)).trans (o_1908.fi 34 (by decide))).trans (o_1867.fi 34 (by decide))
          refine ⟨vin (a_add (a_mul (show (4 : Int32).toInt = 4 by decide) rfl (by omega) (by omega)) (show (3 : Int32).toInt = 3 by decide) (by omega) (by omega)) (by omega) (by omega), ?_⟩
          intro z_1916 ez_1916
          have tz_1916 : TM z_1916 := by rw [ez_1916]; exact Ty_wR tz_1915 trivial
          have oz_1916 : Same [34, 37, 38, 39, 41, 42] [24] z z_1916 := oz_1915.r (by decide) ez_1916
          intro z_1917 ez_1917
          have f_1928 : 0 ≤ (gI z_1916 34).toInt ∧ (gI z_1916 34).toInt ≤ 20 := tz_1916.1 34
          have q_1929 := ((((((show (gI z_1916 34).toInt = (gI z_1915 34).toInt by rw [ez_1916]; rfl)).trans (show (gI z_1915 34).toInt = (gI z_1914 34).toInt by rw [ez_1915]; rfl)).trans (show (gI z_1914 34).toInt = (gI z_1913 34).toInt by rw [ez_1914]; rfl)).trans (show (gI z_1913 34).toInt = (gI z_1873 34).toInt by rw [ez_1913]; rfl)).trans (o_1908.fi 34 (by decide))).trans (o_1867.fi 34 (by decide))
          have tz_1917 : TM z_1917 := by rw [ez_1917]; exact Ty_wI tz_1916 (show 0 ≤ ((gI z_1916 34) + (1 : Int32)).toInt ∧ ((gI z_1916 34) + (1 : Int32)).toInt ≤ 20 from by rw [(a_add rfl (show (1 : Int32).toInt = 1 by decide) (by omega) (by omega))]; omega)
          have oz_1917 : Same [34, 37, 38, 39, 41, 42] [24] z z_1917 := oz_1916.i (by decide) ez_1917
          have f_1930 : 0 ≤ (gI z_1917 38).toInt ∧ (gI z_1917 38).toInt ≤ 300 := tz_1917.1 38
          have q_1931 := (((((show (gI z_1917 38).toInt = (gI z_1916 38).toInt by rw [ez_1917]; rfl)).trans (show (gI z_1916 38).toInt = (gI z_1915 38).toInt by rw [ez_1916]; rfl)).trans (show (gI z_1915 38).toInt = (gI z_1914 38).toInt by rw [ez_1915]; rfl)).trans (show (gI z_1914 38).toInt = (gI z_1913 38).toInt by rw [ez_1914]; rfl)).trans (show (gI z_1913 38).toInt = (gI z_1873 38).toInt by rw [ez_1913]; rfl)
          have f_1932 : 0 ≤ (gI z_1917 42).toInt ∧ (gI z_1917 42).toInt ≤ 1 := tz_1917.1 42
          have q_1933 := (((((show (gI z_1917 42).toInt = (gI z_1916 42).toInt by rw [ez_1917]; rfl)).trans (show (gI z_1916 42).toInt = (gI z_1915 42).toInt by rw [ez_1916]; rfl)).trans (show (gI z_1915 42).toInt = (gI z_1914 42).toInt by rw [ez_1915]; rfl)).trans (show (gI z_1914 42).toInt = (gI z_1913 42).toInt by rw [ez_1914]; rfl)).trans (show (gI z_1913 42).toInt = (gI z_1873 42).toInt by rw [ez_1913]; rfl)
          have f_1934 : 0 ≤ (gI z_1917 34).toInt ∧ (gI z_1917 34).toInt ≤ 20 := tz_1917.1 34
          have q_1935 := (show (gI z_1917 34).toInt = ((gI z_1916 34) + (1 : Int32)).toInt by rw [ez_1917]; rfl)
          have q_1936 : ((gI z_1916 34) + (1 : Int32)).toInt = ((gI z_1916 34).toInt + (1)) := (a_add rfl (show (1 : Int32).toInt = 1 by decide) (by omega) (by omega))
          exact hk z_1917 tz_1917 oz_1917 (by omega)
        · skip
          have i_1937 := i_ne rfl (show (0 : Int32).toInt = 0 by decide) c_1912
          have f_1938 : 0 ≤ (gI z_1873 34).toInt ∧ (gI z_1873 34).toInt ≤ 20 := tz_1873.1 34
          have q_1939 := ((o_1908.fi 34 (by decide))).trans (o_1867.fi 34 (by decide))
          have f_1940 : 0 ≤ (gI z 34).toInt ∧ (gI z 34).toInt ≤ 20 := ht.1 34
          exact hk z_1873 tz_1873 oz_1873 (by omega)

set_option maxHeartbeats 2000000 in
theorem s_X9_rules  (z : St) (P : Int32 → St → Prop) (ht : TM z)  (hk : ∀ (r : Int32) (z2 : St), TM z2 → Same [0, 1, 22, 34, 36, 37, 38, 39, 41, 42] [14, 15, 16, 17, 24] z z2 → ((gI z2 36).toInt = 0) → P r z2) : wp_X9_rules  z P := by
  unfold wp_X9_rules
  intro z1 ez1
  have tz1 : TM z1 := by rw [ez1]; exact Ty_wI ht trivial
  have oz1 : Same [0, 1, 22, 34, 36, 37, 38, 39, 41, 42] [14, 15, 16, 17, 24] z z1 := (Same.rf (z := z)).i (by decide) ez1
  intro z2 ez2
  have tz2 : TM z2 := by rw [ez2]; exact Ty_wI tz1 (show 0 ≤ (0 : Int32).toInt ∧ (0 : Int32).toInt ≤ 300 from by rw [(show (0 : Int32).toInt = 0 by decide)]; omega)
  have oz2 : Same [0, 1, 22, 34, 36, 37, 38, 39, 41, 42] [14, 15, 16, 17, 24] z z2 := oz1.i (by decide) ez2
  intro z3 ez3
  have tz3 : TM z3 := by rw [ez3]; exact Ty_wI tz2 (show 0 ≤ (0 : Int32).toInt ∧ (0 : Int32).toInt ≤ 1 from by rw [(show (0 : Int32).toInt = 0 by decide)]; omega)
  have oz3 : Same [0, 1, 22, 34, 36, 37, 38, 39, 41, 42] [14, 15, 16, 17, 24] z z3 := oz2.i (by decide) ez3
  intro z4 ez4
  have tz4 : TM z4 := by rw [ez4]; exact Ty_wI tz3 trivial
  have oz4 : Same [0, 1, 22, 34, 36, 37, 38, 39, 41, 42] [14, 15, 16, 17, 24] z z4 := oz3.i (by decide) ez4
  intro z5 ez5
  have tz5 : TM z5 := by rw [ez5]; exact Ty_wI tz4 (show 0 ≤ (0 : Int32).toInt ∧ (0 : Int32).toInt ≤ 20 from by rw [(show (0 : Int32).toInt = 0 by decide)]; omega)
  have oz5 : Same [0, 1, 22, 34, 36, 37, 38, 39, 41, 42] [14, 15, 16, 17, 24] z z5 := oz4.i (by decide) ez5
  have f_1 : 0 ≤ (gI z5 38).toInt ∧ (gI z5 38).toInt ≤ 300 := tz5.1 38
  have q_2 := ((((show (gI z5 38).toInt = (gI z4 38).toInt by rw [ez5]; rfl)).trans (show (gI z4 38).toInt = (gI z3 38).toInt by rw [ez4]; rfl)).trans (show (gI z3 38).toInt = (gI z2 38).toInt by rw [ez3]; rfl)).trans (show (gI z2 38).toInt = (0 : Int32).toInt by rw [ez2]; rfl)
  have q_3 : (0 : Int32).toInt = (0) := (show (0 : Int32).toInt = 0 by decide)
  have f_4 : 0 ≤ (gI z5 36).toInt ∧ (gI z5 36).toInt ≤ 300 := tz5.1 36
  have q_5 := (((((show (gI z5 36).toInt = (gI z4 36).toInt by rw [ez5]; rfl)).trans (show (gI z4 36).toInt = (gI z3 36).toInt by rw [ez4]; rfl)).trans (show (gI z3 36).toInt = (gI z2 36).toInt by rw [ez3]; rfl)).trans (show (gI z2 36).toInt = (gI z1 36).toInt by rw [ez2]; rfl)).trans (show (gI z1 36).toInt = (gI z 36).toInt by rw [ez1]; rfl)
  have f_6 : 0 ≤ (gI z 36).toInt ∧ (gI z 36).toInt ≤ 300 := ht.1 36
  refine s_X9_next  z5 _ tz5 (by omega) (fun z6 tz6 o_8 hp_7 => ?_)
  have oz6 : Same [0, 1, 22, 34, 36, 37, 38, 39, 41, 42] [14, 15, 16, 17, 24] z z6 := oz5.tr o_8 (by decide) (by decide)
  have f_9 : 0 ≤ (gI z6 38).toInt ∧ (gI z6 38).toInt ≤ 300 := tz6.1 38
  intro K8 hK_10
  refine ⟨fun c26 => ?_, fun c26 => ?_⟩
  · skip
    have i_11 := i_eq rfl (show (0 : Int32).toInt = 0 by decide) c26
    refine hK_10 z6 ?_
    intro z_12 ez_12
    have tz_12 : TM z_12 := by rw [ez_12]; exact Ty_wI tz6 (show 0 ≤ (0 : Int32).toInt ∧ (0 : Int32).toInt ≤ 300 from by rw [(show (0 : Int32).toInt = 0 by decide)]; omega)
    have oz_12 : Same [0, 1, 22, 34, 36, 37, 38, 39, 41, 42] [14, 15, 16, 17, 24] z z_12 := oz6.i (by decide) ez_12
    refine ⟨fun c_13 => ?_, fun c_13 => ?_⟩
    · skip
      have f_28 : 0 ≤ (gI z_12 42).toInt ∧ (gI z_12 42).toInt ≤ 1 := tz_12.1 42
      have q_29 := (((((show (gI z_12 42).toInt = (gI z6 42).toInt by rw [ez_12]; rfl)).trans (o_8.fi 42 (by decide))).trans (show (gI z5 42).toInt = (gI z4 42).toInt by rw [ez5]; rfl)).trans (show (gI z4 42).toInt = (gI z3 42).toInt by rw [ez4]; rfl)).trans (show (gI z3 42).toInt = (0 : Int32).toInt by rw [ez3]; rfl)
      have q_30 : (0 : Int32).toInt = (0) := (show (0 : Int32).toInt = 0 by decide)
      have i_31 := i_eq rfl (show (0 : Int32).toInt = 0 by decide) c_13
      intro z_14 ez_14
      have f_32 : 0 ≤ (gI z_12 34).toInt ∧ (gI z_12 34).toInt ≤ 20 := tz_12.1 34
      have q_33 := (((show (gI z_12 34).toInt = (gI z6 34).toInt by rw [ez_12]; rfl)).trans (o_8.fi 34 (by decide))).trans (show (gI z5 34).toInt = (0 : Int32).toInt by rw [ez5]; rfl)
      have q_34 : (0 : Int32).toInt = (0) := (show (0 : Int32).toInt = 0 by decide)
      have tz_14 : TM z_14 := by rw [ez_14]; exact Ty_wI tz_12 (show 0 ≤ (gI z_12 34).toInt ∧ (gI z_12 34).toInt ≤ 20 from by omega)
      have oz_14 : Same [0, 1, 22, 34, 36, 37, 38, 39, 41, 42] [14, 15, 16, 17, 24] z z_14 := oz_12.i (by decide) ez_14
      intro K_15 hK_35
      have L_36 : ∀ (n : Nat) (v_16 : Int32) (z_17 : St), TM z_17 → Same [0, 1, 22, 34, 36, 37, 38, 39, 41, 42] [14, 15, 16, 17, 24] z z_17 → (0 ≤ v_16.toInt) → (v_16.toInt ≤ 20) → ((gI z_17 36).toInt = 0) → (20 - v_16.toInt).toNat < n → K_15 v_16 z_17 := by
        intro n
        induction n with
        | zero => intro v_16 z_17 tz_17 ocz_17 w_37 w_38 w_39 m_41; omega
        | succ n ih_40 =>
          intro v_16 z_17 tz_17 ocz_17 w_37 w_38 w_39 m_41
          have f_42 : 0 ≤ (gI z_17 36).toInt ∧ (gI z_17 36).toInt ≤ 300 := tz_17.1 36
          refine hK_35 v_16 z_17 ?_
          refine ⟨fun c_18 => ?_, fun c_18 => ?_⟩
          · skip
            have f_43 : 0 ≤ (gI z_17 22).toInt ∧ (gI z_17 22).toInt ≤ 20 := tz_17.1 22
            have i_44 := i_le rfl rfl c_18
            refine s_X9_told (gI z_17 22) z_17 _ tz_17  (fun r_19 z_20 tz_20 o_46 hp_45 => ?_)
            have oz_20 : Same [0, 1, 22, 34, 36, 37, 38, 39, 41, 42] [14, 15, 16, 17, 24] z z_20 := ocz_17.tr o_46 (by decide) (by decide)
            have f_47 : 0 ≤ (gI z_20 36).toInt ∧ (gI z_20 36).toInt ≤ 300 := tz_20.1 36
            have q_48 := (o_46.fi 36 (by decide))
            exact hk r_19 z_20 tz_20 oz_20 (by omega)
          · skip
            have f_49 : 0 ≤ (gI z_17 22).toInt ∧ (gI z_17 22).toInt ≤ 20 := tz_17.1 22
            have i_50 := i_nle rfl rfl c_18
            refine ⟨vin (a_mul (show (4 : Int32).toInt = 4 by decide) rfl (by omega) (by omega)) (by omega) (by omega), ?_⟩
            refine ⟨vin rfl (by omega) (by omega), ?_⟩
            intro z_21 ez_21
            have tz_21 : TM z_21 := by rw [ez_21]; exact Ty_wR tz_17 trivial
            have oz_21 : Same [0, 1, 22, 34, 36, 37, 38, 39, 41, 42] [14, 15, 16, 17, 24] z z_21 := ocz_17.r (by decide) ez_21
            refine ⟨vin (a_add (a_mul (show (4 : Int32).toInt = 4 by decide) rfl (by omega) (by omega)) (show (1 : Int32).toInt = 1 by decide) (by omega) (by omega)) (by omega) (by omega), ?_⟩
            refine ⟨vin rfl (by omega) (by omega), ?_⟩
            intro z_22 ez_22
            have tz_22 : TM z_22 := by rw [ez_22]; exact Ty_wR tz_21 trivial
            have oz_22 : Same [0, 1, 22, 34, 36, 37, 38, 39, 41, 42] [14, 15, 16, 17, 24] z z_22 := oz_21.r (by decide) ez_22
            refine ⟨vin (a_add (a_mul (show (4 : Int32).toInt = 4 by decide) rfl (by omega) (by omega)) (show (2 : Int32).toInt = 2 by decide) (by omega) (by omega)) (by omega) (by omega), ?_⟩
            refine ⟨vin rfl (by omega) (by omega), ?_⟩
            intro z_23 ez_23
            have tz_23 : TM z_23 := by rw [ez_23]; exact Ty_wR tz_22 trivial
            have oz_23 : Same [0, 1, 22, 34, 36, 37, 38, 39, 41, 42] [14, 15, 16, 17, 24] z z_23 := oz_22.r (by decide) ez_23
            refine ⟨vin (a_add (a_mul (show (4 : Int32).toInt = 4 by decide) rfl (by omega) (by omega)) (show (3 : Int32).toInt = 3 by decide) (by omega) (by omega)) (by omega) (by omega), ?_⟩
            refine ⟨vin rfl (by omega) (by omega), ?_⟩
            intro z_24 ez_24
            have tz_24 : TM z_24 := by rw [ez_24]; exact Ty_wR tz_23 trivial
            have oz_24 : Same [0, 1, 22, 34, 36, 37, 38, 39, 41, 42] [14, 15, 16, 17, 24] z z_24 := oz_23.r (by decide) ez_24
            intro y_25 ey_25
            have iy_25 : y_25.toInt = (v_16.toInt + (1)) := by rw [ey_25]; exact (a_add rfl (show (1 : Int32).toInt = 1 by decide) (by omega) (by omega))
            have f_51 : 0 ≤ (gI z_24 36).toInt ∧ (gI z_24 36).toInt ≤ 300 := tz_24.1 36
            have q_52 := ((((show (gI z_24 36).toInt = (gI z_23 36).toInt by rw [ez_24]; rfl)).trans (show (gI z_23 36).toInt = (gI z_22 36).toInt by rw [ez_23]; rfl)).trans (show (gI z_22 36).toInt = (gI z_21 36).toInt by rw [ez_22]; rfl)).trans (show (gI z_21 36).toInt = (gI z_17 36).toInt by rw [ez_21]; rfl)
            exact ih_40 y_25 z_24 tz_24 oz_24 (by omega) (by omega) (by omega) (by omega)
      have g_53 : (0 : Int32).toInt = 0 := by decide
      have f_54 : 0 ≤ (gI z_14 36).toInt ∧ (gI z_14 36).toInt ≤ 300 := tz_14.1 36
      have q_55 := ((show (gI z_14 36).toInt = (gI z_12 36).toInt by rw [ez_14]; rfl)).trans (show (gI z_12 36).toInt = (0 : Int32).toInt by rw [ez_12]; rfl)
      have q_56 : (0 : Int32).toInt = (0) := (show (0 : Int32).toInt = 0 by decide)
      exact L_36 ((20 - (0 : Int32).toInt).toNat + 1) ((0 : Int32)) z_14 tz_14 oz_14 (by omega) (by omega) (by omega) (by omega)
    · skip
      have f_57 : 0 ≤ (gI z_12 42).toInt ∧ (gI z_12 42).toInt ≤ 1 := tz_12.1 42
      have q_58 := (((((show (gI z_12 42).toInt = (gI z6 42).toInt by rw [ez_12]; rfl)).trans (o_8.fi 42 (by decide))).trans (show (gI z5 42).toInt = (gI z4 42).toInt by rw [ez5]; rfl)).trans (show (gI z4 42).toInt = (gI z3 42).toInt by rw [ez4]; rfl)).trans (show (gI z3 42).toInt = (0 : Int32).toInt by rw [ez3]; rfl)
      have q_59 : (0 : Int32).toInt = (0) := (show (0 : Int32).toInt = 0 by decide)
      have i_60 := i_ne rfl (show (0 : Int32).toInt = 0 by decide) c_13
      have g_61 : (-6 : Int32).toInt = -6 := by decide
      refine s_X9_told ((-6 : Int32)) z_12 _ tz_12  (fun r_26 z_27 tz_27 o_63 hp_62 => ?_)
      have oz_27 : Same [0, 1, 22, 34, 36, 37, 38, 39, 41, 42] [14, 15, 16, 17, 24] z z_27 := oz_12.tr o_63 (by decide) (by decide)
      have f_64 : 0 ≤ (gI z_27 36).toInt ∧ (gI z_27 36).toInt ≤ 300 := tz_27.1 36
      have q_65 := ((o_63.fi 36 (by decide))).trans (show (gI z_12 36).toInt = (0 : Int32).toInt by rw [ez_12]; rfl)
      have q_66 : (0 : Int32).toInt = (0) := (show (0 : Int32).toInt = 0 by decide)
      exact hk r_26 z_27 tz_27 oz_27 (by omega)
  · skip
    have i_67 := i_ne rfl (show (0 : Int32).toInt = 0 by decide) c26
    intro K27 hK_68
    have L_69 : ∀ (n : Nat)  (z28 : St), TM z28 → Same [0, 1, 22, 34, 36, 37, 38, 39, 41, 42] [14, 15, 16, 17, 24] z z28 → ((gI z28 36).toInt = (gI z 36).toInt) → ((gI z28 38).toInt ≤ (gI z28 36).toInt) → (22 - (gI z28 34).toInt - (gI z28 42).toInt).toNat < n → K27 z28 := by
      intro n
      induction n with
      | zero => intro z28 tz28 ocz28 w_70 w_71 m_73; omega
      | succ n ih_72 =>
        intro z28 tz28 ocz28 w_70 w_71 m_73
        have f_74 : 0 ≤ (gI z28 36).toInt ∧ (gI z28 36).toInt ≤ 300 := tz28.1 36
        have f_75 : 0 ≤ (gI z28 38).toInt ∧ (gI z28 38).toInt ≤ 300 := tz28.1 38
        have f_76 : 0 ≤ (gI z28 34).toInt ∧ (gI z28 34).toInt ≤ 20 := tz28.1 34
        have f_77 : 0 ≤ (gI z28 42).toInt ∧ (gI z28 42).toInt ≤ 1 := tz28.1 42
        refine hK_68 z28 ?_
        intro K29 hK_78
        refine ⟨fun c34 => ?_, fun c34 => ?_⟩
        · skip
          have i_79 := i_ne rfl (show (0 : Int32).toInt = 0 by decide) c34
          refine hK_78  ?_
          refine ⟨fun c_80 => ?_, fun c_80 => ?_⟩
          · skip
            have i_83 := i_ne rfl (show (0 : Int32).toInt = 0 by decide) c_80
            refine hK_10 z28 ?_
            intro z_84 ez_84
            have tz_84 : TM z_84 := by rw [ez_84]; exact Ty_wI tz28 (show 0 ≤ (0 : Int32).toInt ∧ (0 : Int32).toInt ≤ 300 from by rw [(show (0 : Int32).toInt = 0 by decide)]; omega)
            have oz_84 : Same [0, 1, 22, 34, 36, 37, 38, 39, 41, 42] [14, 15, 16, 17, 24] z z_84 := ocz28.i (by decide) ez_84
            refine ⟨fun c_85 => ?_, fun c_85 => ?_⟩
            · skip
              have f_100 : 0 ≤ (gI z_84 42).toInt ∧ (gI z_84 42).toInt ≤ 1 := tz_84.1 42
              have q_101 := (show (gI z_84 42).toInt = (gI z28 42).toInt by rw [ez_84]; rfl)
              have i_102 := i_eq rfl (show (0 : Int32).toInt = 0 by decide) c_85
              intro z_86 ez_86
              have f_103 : 0 ≤ (gI z_84 34).toInt ∧ (gI z_84 34).toInt ≤ 20 := tz_84.1 34
              have q_104 := (show (gI z_84 34).toInt = (gI z28 34).toInt by rw [ez_84]; rfl)
              have tz_86 : TM z_86 := by rw [ez_86]; exact Ty_wI tz_84 (show 0 ≤ (gI z_84 34).toInt ∧ (gI z_84 34).toInt ≤ 20 from by omega)
              have oz_86 : Same [0, 1, 22, 34, 36, 37, 38, 39, 41, 42] [14, 15, 16, 17, 24] z z_86 := oz_84.i (by decide) ez_86
              intro K_87 hK_105
              have L_106 : ∀ (n : Nat) (v_88 : Int32) (z_89 : St), TM z_89 → Same [0, 1, 22, 34, 36, 37, 38, 39, 41, 42] [14, 15, 16, 17, 24] z z_89 → (0 ≤ v_88.toInt) → (v_88.toInt ≤ 20) → ((gI z_89 36).toInt = 0) → (20 - v_88.toInt).toNat < n → K_87 v_88 z_89 := by
                intro n
                induction n with
                | zero => intro v_88 z_89 tz_89 ocz_89 w_107 w_108 w_109 m_111; omega
                | succ n ih_110 =>
                  intro v_88 z_89 tz_89 ocz_89 w_107 w_108 w_109 m_111
                  have f_112 : 0 ≤ (gI z_89 36).toInt ∧ (gI z_89 36).toInt ≤ 300 := tz_89.1 36
                  refine hK_105 v_88 z_89 ?_
                  refine ⟨fun c_90 => ?_, fun c_90 => ?_⟩
                  · skip
                    have f_113 : 0 ≤ (gI z_89 22).toInt ∧ (gI z_89 22).toInt ≤ 20 := tz_89.1 22
                    have i_114 := i_le rfl rfl c_90
                    refine s_X9_told (gI z_89 22) z_89 _ tz_89  (fun r_91 z_92 tz_92 o_116 hp_115 => ?_)
                    have oz_92 : Same [0, 1, 22, 34, 36, 37, 38, 39, 41, 42] [14, 15, 16, 17, 24] z z_92 := ocz_89.tr o_116 (by decide) (by decide)
                    have f_117 : 0 ≤ (gI z_92 36).toInt ∧ (gI z_92 36).toInt ≤ 300 := tz_92.1 36
                    have q_118 := (o_116.fi 36 (by decide))
                    exact hk r_91 z_92 tz_92 oz_92 (by omega)
                  · skip
                    have f_119 : 0 ≤ (gI z_89 22).toInt ∧ (gI z_89 22).toInt ≤ 20 := tz_89.1 22
                    have i_120 := i_nle rfl rfl c_90
                    refine ⟨vin (a_mul (show (4 : Int32).toInt = 4 by decide) rfl (by omega) (by omega)) (by omega) (by omega), ?_⟩
                    refine ⟨vin rfl (by omega) (by omega), ?_⟩
                    intro z_93 ez_93
                    have tz_93 : TM z_93 := by rw [ez_93]; exact Ty_wR tz_89 trivial
                    have oz_93 : Same [0, 1, 22, 34, 36, 37, 38, 39, 41, 42] [14, 15, 16, 17, 24] z z_93 := ocz_89.r (by decide) ez_93
                    refine ⟨vin (a_add (a_mul (show (4 : Int32).toInt = 4 by decide) rfl (by omega) (by omega)) (show (1 : Int32).toInt = 1 by decide) (by omega) (by omega)) (by omega) (by omega), ?_⟩
                    refine ⟨vin rfl (by omega) (by omega), ?_⟩
                    intro z_94 ez_94
                    have tz_94 : TM z_94 := by rw [ez_94]; exact Ty_wR tz_93 trivial
                    have oz_94 : Same [0, 1, 22, 34, 36, 37, 38, 39, 41, 42] [14, 15, 16, 17, 24] z z_94 := oz_93.r (by decide) ez_94
                    refine ⟨vin (a_add (a_mul (show (4 : Int32).toInt = 4 by decide) rfl (by omega) (by omega)) (show (2 : Int32).toInt = 2 by decide) (by omega) (by omega)) (by omega) (by omega), ?_⟩
                    refine ⟨vin rfl (by omega) (by omega), ?_⟩
                    intro z_95 ez_95
                    have tz_95 : TM z_95 := by rw [ez_95]; exact Ty_wR tz_94 trivial
                    have oz_95 : Same [0, 1, 22, 34, 36, 37, 38, 39, 41, 42] [14, 15, 16, 17, 24] z z_95 := oz_94.r (by decide) ez_95
                    refine ⟨vin (a_add (a_mul (show (4 : Int32).toInt = 4 by decide) rfl (by omega) (by omega)) (show (3 : Int32).toInt = 3 by decide) (by omega) (by omega)) (by omega) (by omega), ?_⟩
                    refine ⟨vin rfl (by omega) (by omega), ?_⟩
                    intro z_96 ez_96
                    have tz_96 : TM z_96 := by rw [ez_96]; exact Ty_wR tz_95 trivial
                    have oz_96 : Same [0, 1, 22, 34, 36, 37, 38, 39, 41, 42] [14, 15, 16, 17, 24] z z_96 := oz_95.r (by decide) ez_96
                    intro y_97 ey_97
                    have iy_97 : y_97.toInt = (v_88.toInt + (1)) := by rw [ey_97]; exact (a_add rfl (show (1 : Int32).toInt = 1 by decide) (by omega) (by omega))
                    have f_121 : 0 ≤ (gI z_96 36).toInt ∧ (gI z_96 36).toInt ≤ 300 := tz_96.1 36
                    have q_122 := ((((show (gI z_96 36).toInt = (gI z_95 36).toInt by rw [ez_96]; rfl)).trans (show (gI z_95 36).toInt = (gI z_94 36).toInt by rw [ez_95]; rfl)).trans (show (gI z_94 36).toInt = (gI z_93 36).toInt by rw [ez_94]; rfl)).trans (show (gI z_93 36).toInt = (gI z_89 36).toInt by rw [ez_93]; rfl)
                    exact ih_110 y_97 z_96 tz_96 oz_96 (by omega) (by omega) (by omega) (by omega)
              have g_123 : (0 : Int32).toInt = 0 := by decide
              have f_124 : 0 ≤ (gI z_86 36).toInt ∧ (gI z_86 36).toInt ≤ 300 := tz_86.1 36
              have q_125 := ((show (gI z_86 36).toInt = (gI z_84 36).toInt by rw [ez_86]; rfl)).trans (show (gI z_84 36).toInt = (0 : Int32).toInt by rw [ez_84]; rfl)
              have q_126 : (0 : Int32).toInt = (0) := (show (0 : Int32).toInt = 0 by decide)
              exact L_106 ((20 - (0 : Int32).toInt).toNat + 1) ((0 : Int32)) z_86 tz_86 oz_86 (by omega) (by omega) (by omega) (by omega)
            · skip
              have f_127 : 0 ≤ (gI z_84 42).toInt ∧ (gI z_84 42).toInt ≤ 1 := tz_84.1 42
              have q_128 := (show (gI z_84 42).toInt = (gI z28 42).toInt by rw [ez_84]; rfl)
              have i_129 := i_ne rfl (show (0 : Int32).toInt = 0 by decide) c_85
              have g_130 : (-6 : Int32).toInt = -6 := by decide
              refine s_X9_told ((-6 : Int32)) z_84 _ tz_84  (fun r_98 z_99 tz_99 o_132 hp_131 => ?_)
              have oz_99 : Same [0, 1, 22, 34, 36, 37, 38, 39, 41, 42] [14, 15, 16, 17, 24] z z_99 := oz_84.tr o_132 (by decide) (by decide)
              have f_133 : 0 ≤ (gI z_99 36).toInt ∧ (gI z_99 36).toInt ≤ 300 := tz_99.1 36
              have q_134 := ((o_132.fi 36 (by decide))).trans (show (gI z_84 36).toInt = (0 : Int32).toInt by rw [ez_84]; rfl)
              have q_135 : (0 : Int32).toInt = (0) := (show (0 : Int32).toInt = 0 by decide)
              exact hk r_98 z_99 tz_99 oz_99 (by omega)
          · skip
            have i_136 := i_eq rfl (show (0 : Int32).toInt = 0 by decide) c_80
            refine ⟨fun c_81 => ?_, fun c_81 => ?_⟩
            · skip
              have i_137 := i_eq rfl (show (0 : Int32).toInt = 0 by decide) c_81
              refine hK_10 z28 ?_
              intro z_138 ez_138
              have tz_138 : TM z_138 := by rw [ez_138]; exact Ty_wI tz28 (show 0 ≤ (0 : Int32).toInt ∧ (0 : Int32).toInt ≤ 300 from by rw [(show (0 : Int32).toInt = 0 by decide)]; omega)
              have oz_138 : Same [0, 1, 22, 34, 36, 37, 38, 39, 41, 42] [14, 15, 16, 17, 24] z z_138 := ocz28.i (by decide) ez_138
              refine ⟨fun c_139 => ?_, fun c_139 => ?_⟩
              · skip
                have f_154 : 0 ≤ (gI z_138 42).toInt ∧ (gI z_138 42).toInt ≤ 1 := tz_138.1 42
                have q_155 := (show (gI z_138 42).toInt = (gI z28 42).toInt by rw [ez_138]; rfl)
                have i_156 := i_eq rfl (show (0 : Int32).toInt = 0 by decide) c_139
                intro z_140 ez_140
                have f_157 : 0 ≤ (gI z_138 34).toInt ∧ (gI z_138 34).toInt ≤ 20 := tz_138.1 34
                have q_158 := (show (gI z_138 34).toInt = (gI z28 34).toInt by rw [ez_138]; rfl)
                have tz_140 : TM z_140 := by rw [ez_140]; exact Ty_wI tz_138 (show 0 ≤ (gI z_138 34).toInt ∧ (gI z_138 34).toInt ≤ 20 from by omega)
                have oz_140 : Same [0, 1, 22, 34, 36, 37, 38, 39, 41, 42] [14, 15, 16, 17, 24] z z_140 := oz_138.i (by decide) ez_140
                intro K_141 hK_159
                have L_160 : ∀ (n : Nat) (v_142 : Int32) (z_143 : St), TM z_143 → Same [0, 1, 22, 34, 36, 37, 38, 39, 41, 42] [14, 15, 16, 17, 24] z z_143 → (0 ≤ v_142.toInt) → (v_142.toInt ≤ 20) → ((gI z_143 36).toInt = 0) → (20 - v_142.toInt).toNat < n → K_141 v_142 z_143 := by
                  intro n
                  induction n with
                  | zero => intro v_142 z_143 tz_143 ocz_143 w_161 w_162 w_163 m_165; omega
                  | succ n ih_164 =>
                    intro v_142 z_143 tz_143 ocz_143 w_161 w_162 w_163 m_165
                    have f_166 : 0 ≤ (gI z_143 36).toInt ∧ (gI z_143 36).toInt ≤ 300 := tz_143.1 36
                    refine hK_159 v_142 z_143 ?_
                    refine ⟨fun c_144 => ?_, fun c_144 => ?_⟩
                    · skip
                      have f_167 : 0 ≤ (gI z_143 22).toInt ∧ (gI z_143 22).toInt ≤ 20 := tz_143.1 22
                      have i_168 := i_le rfl rfl c_144
                      refine s_X9_told (gI z_143 22) z_143 _ tz_143  (fun r_145 z_146 tz_146 o_170 hp_169 => ?_)
                      have oz_146 : Same [0, 1, 22, 34, 36, 37, 38, 39, 41, 42] [14, 15, 16, 17, 24] z z_146 := ocz_143.tr o_170 (by decide) (by decide)
                      have f_171 : 0 ≤ (gI z_146 36).toInt ∧ (gI z_146 36).toInt ≤ 300 := tz_146.1 36
                      have q_172 := (o_170.fi 36 (by decide))
                      exact hk r_145 z_146 tz_146 oz_146 (by omega)
                    · skip
                      have f_173 : 0 ≤ (gI z_143 22).toInt ∧ (gI z_143 22).toInt ≤ 20 := tz_143.1 22
                      have i_174 := i_nle rfl rfl c_144
                      refine ⟨vin (a_mul (show (4 : Int32).toInt = 4 by decide) rfl (by omega) (by omega)) (by omega) (by omega), ?_⟩
                      refine ⟨vin rfl (by omega) (by omega), ?_⟩
                      intro z_147 ez_147
                      have tz_147 : TM z_147 := by rw [ez_147]; exact Ty_wR tz_143 trivial
                      have oz_147 : Same [0, 1, 22, 34, 36, 37, 38, 39, 41, 42] [14, 15, 16, 17, 24] z z_147 := ocz_143.r (by decide) ez_147
                      refine ⟨vin (a_add (a_mul (show (4 : Int32).toInt = 4 by decide) rfl (by omega) (by omega)) (show (1 : Int32).toInt = 1 by decide) (by omega) (by omega)) (by omega) (by omega), ?_⟩
                      refine ⟨vin rfl (by omega) (by omega), ?_⟩
                      intro z_148 ez_148
                      have tz_148 : TM z_148 := by rw [ez_148]; exact Ty_wR tz_147 trivial
                      have oz_148 : Same [0, 1, 22, 34, 36, 37, 38, 39, 41, 42] [14, 15, 16, 17, 24] z z_148 := oz_147.r (by decide) ez_148
                      refine ⟨vin (a_add (a_mul (show (4 : Int32).toInt = 4 by decide) rfl (by omega) (by omega)) (show (2 : Int32).toInt = 2 by decide) (by omega) (by omega)) (by omega) (by omega), ?_⟩
                      refine ⟨vin rfl (by omega) (by omega), ?_⟩
                      intro z_149 ez_149
                      have tz_149 : TM z_149 := by rw [ez_149]; exact Ty_wR tz_148 trivial
                      have oz_149 : Same [0, 1, 22, 34, 36, 37, 38, 39, 41, 42] [14, 15, 16, 17, 24] z z_149 := oz_148.r (by decide) ez_149
                      refine ⟨vin (a_add (a_mul (show (4 : Int32).toInt = 4 by decide) rfl (by omega) (by omega)) (show (3 : Int32).toInt = 3 by decide) (by omega) (by omega)) (by omega) (by omega), ?_⟩
                      refine ⟨vin rfl (by omega) (by omega), ?_⟩
                      intro z_150 ez_150
                      have tz_150 : TM z_150 := by rw [ez_150]; exact Ty_wR tz_149 trivial
                      have oz_150 : Same [0, 1, 22, 34, 36, 37, 38, 39, 41, 42] [14, 15, 16, 17, 24] z z_150 := oz_149.r (by decide) ez_150
                      intro y_151 ey_151
                      have iy_151 : y_151.toInt = (v_142.toInt + (1)) := by rw [ey_151]; exact (a_add rfl (show (1 : Int32).toInt = 1 by decide) (by omega) (by omega))
                      have f_175 : 0 ≤ (gI z_150 36).toInt ∧ (gI z_150 36).toInt ≤ 300 := tz_150.1 36
                      have q_176 := ((((show (gI z_150 36).toInt = (gI z_149 36).toInt by rw [ez_150]; rfl)).trans (show (gI z_149 36).toInt = (gI z_148 36).toInt by rw [ez_149]; rfl)).trans (show (gI z_148 36).toInt = (gI z_147 36).toInt by rw [ez_148]; rfl)).trans (show (gI z_147 36).toInt = (gI z_143 36).toInt by rw [ez_147]; rfl)
                      exact ih_164 y_151 z_150 tz_150 oz_150 (by omega) (by omega) (by omega) (by omega)
                have g_177 : (0 : Int32).toInt = 0 := by decide
                have f_178 : 0 ≤ (gI z_140 36).toInt ∧ (gI z_140 36).toInt ≤ 300 := tz_140.1 36
                have q_179 := ((show (gI z_140 36).toInt = (gI z_138 36).toInt by rw [ez_140]; rfl)).trans (show (gI z_138 36).toInt = (0 : Int32).toInt by rw [ez_138]; rfl)
                have q_180 : (0 : Int32).toInt = (0) := (show (0 : Int32).toInt = 0 by decide)
                exact L_160 ((20 - (0 : Int32).toInt).toNat + 1) ((0 : Int32)) z_140 tz_140 oz_140 (by omega) (by omega) (by omega) (by omega)
              · skip
                have f_181 : 0 ≤ (gI z_138 42).toInt ∧ (gI z_138 42).toInt ≤ 1 := tz_138.1 42
                have q_182 := (show (gI z_138 42).toInt = (gI z28 42).toInt by rw [ez_138]; rfl)
                have i_183 := i_ne rfl (show (0 : Int32).toInt = 0 by decide) c_139
                have g_184 : (-6 : Int32).toInt = -6 := by decide
                refine s_X9_told ((-6 : Int32)) z_138 _ tz_138  (fun r_152 z_153 tz_153 o_186 hp_185 => ?_)
                have oz_153 : Same [0, 1, 22, 34, 36, 37, 38, 39, 41, 42] [14, 15, 16, 17, 24] z z_153 := oz_138.tr o_186 (by decide) (by decide)
                have f_187 : 0 ≤ (gI z_153 36).toInt ∧ (gI z_153 36).toInt ≤ 300 := tz_153.1 36
                have q_188 := ((o_186.fi 36 (by decide))).trans (show (gI z_138 36).toInt = (0 : Int32).toInt by rw [ez_138]; rfl)
                have q_189 : (0 : Int32).toInt = (0) := (show (0 : Int32).toInt = 0 by decide)
                exact hk r_152 z_153 tz_153 oz_153 (by omega)
            · skip
              have i_190 := i_ne rfl (show (0 : Int32).toInt = 0 by decide) c_81
              have g_191 : (0 : Int32).toInt = 0 := by decide
              refine s_X9_must ((0 : Int32)) z28 _ tz28 (by omega) (fun z_82 tz_82 o_193 hp_192 => ?_)
              have oz_82 : Same [0, 1, 22, 34, 36, 37, 38, 39, 41, 42] [14, 15, 16, 17, 24] z z_82 := ocz28.tr o_193 (by decide) (by decide)
              have f_194 : 0 ≤ (gI z_82 38).toInt ∧ (gI z_82 38).toInt ≤ 300 := tz_82.1 38
              have f_195 : 0 ≤ (gI z_82 42).toInt ∧ (gI z_82 42).toInt ≤ 1 := tz_82.1 42
              refine hK_10 z_82 ?_
              intro z_196 ez_196
              have tz_196 : TM z_196 := by rw [ez_196]; exact Ty_wI tz_82 (show 0 ≤ (0 : Int32).toInt ∧ (0 : Int32).toInt ≤ 300 from by rw [(show (0 : Int32).toInt = 0 by decide)]; omega)
              have oz_196 : Same [0, 1, 22, 34, 36, 37, 38, 39, 41, 42] [14, 15, 16, 17, 24] z z_196 := oz_82.i (by decide) ez_196
              refine ⟨fun c_197 => ?_, fun c_197 => ?_⟩
              · skip
                have f_212 : 0 ≤ (gI z_196 42).toInt ∧ (gI z_196 42).toInt ≤ 1 := tz_196.1 42
                have q_213 := (show (gI z_196 42).toInt = (gI z_82 42).toInt by rw [ez_196]; rfl)
                have i_214 := i_eq rfl (show (0 : Int32).toInt = 0 by decide) c_197
                intro z_198 ez_198
                have f_215 : 0 ≤ (gI z_196 34).toInt ∧ (gI z_196 34).toInt ≤ 20 := tz_196.1 34
                have q_216 := ((show (gI z_196 34).toInt = (gI z_82 34).toInt by rw [ez_196]; rfl)).trans (o_193.fi 34 (by decide))
                have tz_198 : TM z_198 := by rw [ez_198]; exact Ty_wI tz_196 (show 0 ≤ (gI z_196 34).toInt ∧ (gI z_196 34).toInt ≤ 20 from by omega)
                have oz_198 : Same [0, 1, 22, 34, 36, 37, 38, 39, 41, 42] [14, 15, 16, 17, 24] z z_198 := oz_196.i (by decide) ez_198
                intro K_199 hK_217
                have L_218 : ∀ (n : Nat) (v_200 : Int32) (z_201 : St), TM z_201 → Same [0, 1, 22, 34, 36, 37, 38, 39, 41, 42] [14, 15, 16, 17, 24] z z_201 → (0 ≤ v_200.toInt) → (v_200.toInt ≤ 20) → ((gI z_201 36).toInt = 0) → (20 - v_200.toInt).toNat < n → K_199 v_200 z_201 := by
                  intro n
                  induction n with
                  | zero => intro v_200 z_201 tz_201 ocz_201 w_219 w_220 w_221 m_223; omega
                  | succ n ih_222 =>
                    intro v_200 z_201 tz_201 ocz_201 w_219 w_220 w_221 m_223
                    have f_224 : 0 ≤ (gI z_201 36).toInt ∧ (gI z_201 36).toInt ≤ 300 := tz_201.1 36
                    refine hK_217 v_200 z_201 ?_
                    refine ⟨fun c_202 => ?_, fun c_202 => ?_⟩
                    · skip
                      have f_225 : 0 ≤ (gI z_201 22).toInt ∧ (gI z_201 22).toInt ≤ 20 := tz_201.1 22
                      have i_226 := i_le rfl rfl c_202
                      refine s_X9_told (gI z_201 22) z_201 _ tz_201  (fun r_203 z_204 tz_204 o_228 hp_227 => ?_)
                      have oz_204 : Same [0, 1, 22, 34, 36, 37, 38, 39, 41, 42] [14, 15, 16, 17, 24] z z_204 := ocz_201.tr o_228 (by decide) (by decide)
                      have f_229 : 0 ≤ (gI z_204 36).toInt ∧ (gI z_204 36).toInt ≤ 300 := tz_204.1 36
                      have q_230 := (o_228.fi 36 (by decide))
                      exact hk r_203 z_204 tz_204 oz_204 (by omega)
                    · skip
                      have f_231 : 0 ≤ (gI z_201 22).toInt ∧ (gI z_201 22).toInt ≤ 20 := tz_201.1 22
                      have i_232 := i_nle rfl rfl c_202
                      refine ⟨vin (a_mul (show (4 : Int32).toInt = 4 by decide) rfl (by omega) (by omega)) (by omega) (by omega), ?_⟩
                      refine ⟨vin rfl (by omega) (by omega), ?_⟩
                      intro z_205 ez_205
                      have tz_205 : TM z_205 := by rw [ez_205]; exact Ty_wR tz_201 trivial
                      have oz_205 : Same [0, 1, 22, 34, 36, 37, 38, 39, 41, 42] [14, 15, 16, 17, 24] z z_205 := ocz_201.r (by decide) ez_205
                      refine ⟨vin (a_add (a_mul (show (4 : Int32).toInt = 4 by decide) rfl (by omega) (by omega)) (show (1 : Int32).toInt = 1 by decide) (by omega) (by omega)) (by omega) (by omega), ?_⟩
                      refine ⟨vin rfl (by omega) (by omega), ?_⟩
                      intro z_206 ez_206
                      have tz_206 : TM z_206 := by rw [ez_206]; exact Ty_wR tz_205 trivial
                      have oz_206 : Same [0, 1, 22, 34, 36, 37, 38, 39, 41, 42] [14, 15, 16, 17, 24] z z_206 := oz_205.r (by decide) ez_206
                      refine ⟨vin (a_add (a_mul (show (4 : Int32).toInt = 4 by decide) rfl (by omega) (by omega)) (show (2 : Int32).toInt = 2 by decide) (by omega) (by omega)) (by omega) (by omega), ?_⟩
                      refine ⟨vin rfl (by omega) (by omega), ?_⟩
                      intro z_207 ez_207
                      have tz_207 : TM z_207 := by rw [ez_207]; exact Ty_wR tz_206 trivial
                      have oz_207 : Same [0, 1, 22, 34, 36, 37, 38, 39, 41, 42] [14, 15, 16, 17, 24] z z_207 := oz_206.r (by decide) ez_207
                      refine ⟨vin (a_add (a_mul (show (4 : Int32).toInt = 4 by decide) rfl (by omega) (by omega)) (show (3 : Int32).toInt = 3 by decide) (by omega) (by omega)) (by omega) (by omega), ?_⟩
                      refine ⟨vin rfl (by omega) (by omega), ?_⟩
                      intro z_208 ez_208
                      have tz_208 : TM z_208 := by rw [ez_208]; exact Ty_wR tz_207 trivial
                      have oz_208 : Same [0, 1, 22, 34, 36, 37, 38, 39, 41, 42] [14, 15, 16, 17, 24] z z_208 := oz_207.r (by decide) ez_208
                      intro y_209 ey_209
                      have iy_209 : y_209.toInt = (v_200.toInt + (1)) := by rw [ey_209]; exact (a_add rfl (show (1 : Int32).toInt = 1 by decide) (by omega) (by omega))
                      have f_233 : 0 ≤ (gI z_208 36).toInt ∧ (gI z_208 36).toInt ≤ 300 := tz_208.1 36
                      have q_234 := ((((show (gI z_208 36).toInt = (gI z_207 36).toInt by rw [ez_208]; rfl)).trans (show (gI z_207 36).toInt = (gI z_206 36).toInt by rw [ez_207]; rfl)).trans (show (gI z_206 36).toInt = (gI z_205 36).toInt by rw [ez_206]; rfl)).trans (show (gI z_205 36).toInt = (gI z_201 36).toInt by rw [ez_205]; rfl)
                      exact ih_222 y_209 z_208 tz_208 oz_208 (by omega) (by omega) (by omega) (by omega)
                have g_235 : (0 : Int32).toInt = 0 := by decide
                have f_236 : 0 ≤ (gI z_198 36).toInt ∧ (gI z_198 36).toInt ≤ 300 := tz_198.1 36
                have q_237 := ((show (gI z_198 36).toInt = (gI z_196 36).toInt by rw [ez_198]; rfl)).trans (show (gI z_196 36).toInt = (0 : Int32).toInt by rw [ez_196]; rfl)
                have q_238 : (0 : Int32).toInt = (0) := (show (0 : Int32).toInt = 0 by decide)
                exact L_218 ((20 - (0 : Int32).toInt).toNat + 1) ((0 : Int32)) z_198 tz_198 oz_198 (by omega) (by omega) (by omega) (by omega)
              · skip
                have f_239 : 0 ≤ (gI z_196 42).toInt ∧ (gI z_196 42).toInt ≤ 1 := tz_196.1 42
                have q_240 := (show (gI z_196 42).toInt = (gI z_82 42).toInt by rw [ez_196]; rfl)
                have i_241 := i_ne rfl (show (0 : Int32).toInt = 0 by decide) c_197
                have g_242 : (-6 : Int32).toInt = -6 := by decide
                refine s_X9_told ((-6 : Int32)) z_196 _ tz_196  (fun r_210 z_211 tz_211 o_244 hp_243 => ?_)
                have oz_211 : Same [0, 1, 22, 34, 36, 37, 38, 39, 41, 42] [14, 15, 16, 17, 24] z z_211 := oz_196.tr o_244 (by decide) (by decide)
                have f_245 : 0 ≤ (gI z_211 36).toInt ∧ (gI z_211 36).toInt ≤ 300 := tz_211.1 36
                have q_246 := ((o_244.fi 36 (by decide))).trans (show (gI z_196 36).toInt = (0 : Int32).toInt by rw [ez_196]; rfl)
                have q_247 : (0 : Int32).toInt = (0) := (show (0 : Int32).toInt = 0 by decide)
                exact hk r_210 z_211 tz_211 oz_211 (by omega)
        · skip
          have i_248 := i_eq rfl (show (0 : Int32).toInt = 0 by decide) c34
          refine ⟨fun c35 => ?_, fun c35 => ?_⟩
          · skip
            have i_249 := i_ne rfl (show (3 : Int32).toInt = 3 by decide) c35
            refine hK_78  ?_
            refine ⟨fun c_250 => ?_, fun c_250 => ?_⟩
            · skip
              have i_253 := i_ne rfl (show (0 : Int32).toInt = 0 by decide) c_250
              refine hK_10 z28 ?_
              intro z_254 ez_254
              have tz_254 : TM z_254 := by rw [ez_254]; exact Ty_wI tz28 (show 0 ≤ (0 : Int32).toInt ∧ (0 : Int32).toInt ≤ 300 from by rw [(show (0 : Int32).toInt = 0 by decide)]; omega)
              have oz_254 : Same [0, 1, 22, 34, 36, 37, 38, 39, 41, 42] [14, 15, 16, 17, 24] z z_254 := ocz28.i (by decide) ez_254
              refine ⟨fun c_255 => ?_, fun c_255 => ?_⟩
              · skip
                have f_270 : 0 ≤ (gI z_254 42).toInt ∧ (gI z_254 42).toInt ≤ 1 := tz_254.1 42
                have q_271 := (show (gI z_254 42).toInt = (gI z28 42).toInt by rw [ez_254]; rfl)
                have i_272 := i_eq rfl (show (0 : Int32).toInt = 0 by decide) c_255
                intro z_256 ez_256
                have f_273 : 0 ≤ (gI z_254 34).toInt ∧ (gI z_254 34).toInt ≤ 20 := tz_254.1 34
                have q_274 := (show (gI z_254 34).toInt = (gI z28 34).toInt by rw [ez_254]; rfl)
                have tz_256 : TM z_256 := by rw [ez_256]; exact Ty_wI tz_254 (show 0 ≤ (gI z_254 34).toInt ∧ (gI z_254 34).toInt ≤ 20 from by omega)
                have oz_256 : Same [0, 1, 22, 34, 36, 37, 38, 39, 41, 42] [14, 15, 16, 17, 24] z z_256 := oz_254.i (by decide) ez_256
                intro K_257 hK_275
                have L_276 : ∀ (n : Nat) (v_258 : Int32) (z_259 : St), TM z_259 → Same [0, 1, 22, 34, 36, 37, 38, 39, 41, 42] [14, 15, 16, 17, 24] z z_259 → (0 ≤ v_258.toInt) → (v_258.toInt ≤ 20) → ((gI z_259 36).toInt = 0) → (20 - v_258.toInt).toNat < n → K_257 v_258 z_259 := by
                  intro n
                  induction n with
                  | zero => intro v_258 z_259 tz_259 ocz_259 w_277 w_278 w_279 m_281; omega
                  | succ n ih_280 =>
                    intro v_258 z_259 tz_259 ocz_259 w_277 w_278 w_279 m_281
                    have f_282 : 0 ≤ (gI z_259 36).toInt ∧ (gI z_259 36).toInt ≤ 300 := tz_259.1 36
                    refine hK_275 v_258 z_259 ?_
                    refine ⟨fun c_260 => ?_, fun c_260 => ?_⟩
                    · skip
                      have f_283 : 0 ≤ (gI z_259 22).toInt ∧ (gI z_259 22).toInt ≤ 20 := tz_259.1 22
                      have i_284 := i_le rfl rfl c_260
                      refine s_X9_told (gI z_259 22) z_259 _ tz_259  (fun r_261 z_262 tz_262 o_286 hp_285 => ?_)
                      have oz_262 : Same [0, 1, 22, 34, 36, 37, 38, 39, 41, 42] [14, 15, 16, 17, 24] z z_262 := ocz_259.tr o_286 (by decide) (by decide)
                      have f_287 : 0 ≤ (gI z_262 36).toInt ∧ (gI z_262 36).toInt ≤ 300 := tz_262.1 36
                      have q_288 := (o_286.fi 36 (by decide))
                      exact hk r_261 z_262 tz_262 oz_262 (by omega)
                    · skip
                      have f_289 : 0 ≤ (gI z_259 22).toInt ∧ (gI z_259 22).toInt ≤ 20 := tz_259.1 22
                      have i_290 := i_nle rfl rfl c_260
                      refine ⟨vin (a_mul (show (4 : Int32).toInt = 4 by decide) rfl (by omega) (by omega)) (by omega) (by omega), ?_⟩
                      refine ⟨vin rfl (by omega) (by omega), ?_⟩
                      intro z_263 ez_263
                      have tz_263 : TM z_263 := by rw [ez_263]; exact Ty_wR tz_259 trivial
                      have oz_263 : Same [0, 1, 22, 34, 36, 37, 38, 39, 41, 42] [14, 15, 16, 17, 24] z z_263 := ocz_259.r (by decide) ez_263
                      refine ⟨vin (a_add (a_mul (show (4 : Int32).toInt = 4 by decide) rfl (by omega) (by omega)) (show (1 : Int32).toInt = 1 by decide) (by omega) (by omega)) (by omega) (by omega), ?_⟩
                      refine ⟨vin rfl (by omega) (by omega), ?_⟩
                      intro z_264 ez_264
                      have tz_264 : TM z_264 := by rw [ez_264]; exact Ty_wR tz_263 trivial
                      have oz_264 : Same [0, 1, 22, 34, 36, 37, 38, 39, 41, 42] [14, 15, 16, 17, 24] z z_264 := oz_263.r (by decide) ez_264
                      refine ⟨vin (a_add (a_mul (show (4 : Int32).toInt = 4 by decide) rfl (by omega) (by omega)) (show (2 : Int32).toInt = 2 by decide) (by omega) (by omega)) (by omega) (by omega), ?_⟩
                      refine ⟨vin rfl (by omega) (by omega), ?_⟩
                      intro z_265 ez_265
                      have tz_265 : TM z_265 := by rw [ez_265]; exact Ty_wR tz_264 trivial
                      have oz_265 : Same [0, 1, 22, 34, 36, 37, 38, 39, 41, 42] [14, 15, 16, 17, 24] z z_265 := oz_264.r (by decide) ez_265
                      refine ⟨vin (a_add (a_mul (show (4 : Int32).toInt = 4 by decide) rfl (by omega) (by omega)) (show (3 : Int32).toInt = 3 by decide) (by omega) (by omega)) (by omega) (by omega), ?_⟩
                      refine ⟨vin rfl (by omega) (by omega), ?_⟩
                      intro z_266 ez_266
                      have tz_266 : TM z_266 := by rw [ez_266]; exact Ty_wR tz_265 trivial
                      have oz_266 : Same [0, 1, 22, 34, 36, 37, 38, 39, 41, 42] [14, 15, 16, 17, 24] z z_266 := oz_265.r (by decide) ez_266
                      intro y_267 ey_267
                      have iy_267 : y_267.toInt = (v_258.toInt + (1)) := by rw [ey_267]; exact (a_add rfl (show (1 : Int32).toInt = 1 by decide) (by omega) (by omega))
                      have f_291 : 0 ≤ (gI z_266 36).toInt ∧ (gI z_266 36).toInt ≤ 300 := tz_266.1 36
                      have q_292 := ((((show (gI z_266 36).toInt = (gI z_265 36).toInt by rw [ez_266]; rfl)).trans (show (gI z_265 36).toInt = (gI z_264 36).toInt by rw [ez_265]; rfl)).trans (show (gI z_264 36).toInt = (gI z_263 36).toInt by rw [ez_264]; rfl)).trans (show (gI z_263 36).toInt = (gI z_259 36).toInt by rw [ez_263]; rfl)
                      exact ih_280 y_267 z_266 tz_266 oz_266 (by omega) (by omega) (by omega) (by omega)
                have g_293 : (0 : Int32).toInt = 0 := by decide
                have f_294 : 0 ≤ (gI z_256 36).toInt ∧ (gI z_256 36).toInt ≤ 300 := tz_256.1 36
                have q_295 := ((show (gI z_256 36).toInt = (gI z_254 36).toInt by rw [ez_256]; rfl)).trans (show (gI z_254 36).toInt = (0 : Int32).toInt by rw [ez_254]; rfl)
                have q_296 : (0 : Int32).toInt = (0) := (show (0 : Int32).toInt = 0 by decide)
                exact L_276 ((20 - (0 : Int32).toInt).toNat + 1) ((0 : Int32)) z_256 tz_256 oz_256 (by omega) (by omega) (by omega) (by omega)
              · skip
                have f_297 : 0 ≤ (gI z_254 42).toInt ∧ (gI z_254 42).toInt ≤ 1 := tz_254.1 42
                have q_298 := (show (gI z_254 42).toInt = (gI z28 42).toInt by rw [ez_254]; rfl)
                have i_299 := i_ne rfl (show (0 : Int32).toInt = 0 by decide) c_255
                have g_300 : (-6 : Int32).toInt = -6 := by decide
                refine s_X9_told ((-6 : Int32)) z_254 _ tz_254  (fun r_268 z_269 tz_269 o_302 hp_301 => ?_)
                have oz_269 : Same [0, 1, 22, 34, 36, 37, 38, 39, 41, 42] [14, 15, 16, 17, 24] z z_269 := oz_254.tr o_302 (by decide) (by decide)
                have f_303 : 0 ≤ (gI z_269 36).toInt ∧ (gI z_269 36).toInt ≤ 300 := tz_269.1 36
                have q_304 := ((o_302.fi 36 (by decide))).trans (show (gI z_254 36).toInt = (0 : Int32).toInt by rw [ez_254]; rfl)
                have q_305 : (0 : Int32).toInt = (0) := (show (0 : Int32).toInt = 0 by decide)
                exact hk r_268 z_269 tz_269 oz_269 (by omega)
            · skip
              have i_306 := i_eq rfl (show (0 : Int32).toInt = 0 by decide) c_250
              refine ⟨fun c_251 => ?_, fun c_251 => ?_⟩
              · skip
                have i_307 := i_eq rfl (show (0 : Int32).toInt = 0 by decide) c_251
                refine hK_10 z28 ?_
                intro z_308 ez_308
                have tz_308 : TM z_308 := by rw [ez_308]; exact Ty_wI tz28 (show 0 ≤ (0 : Int32).toInt ∧ (0 : Int32).toInt ≤ 300 from by rw [(show (0 : Int32).toInt = 0 by decide)]; omega)
                have oz_308 : Same [0, 1, 22, 34, 36, 37, 38, 39, 41, 42] [14, 15, 16, 17, 24] z z_308 := ocz28.i (by decide) ez_308
                refine ⟨fun c_309 => ?_, fun c_309 => ?_⟩
                · skip
                  have f_324 : 0 ≤ (gI z_308 42).toInt ∧ (gI z_308 42).toInt ≤ 1 := tz_308.1 42
                  have q_325 := (show (gI z_308 42).toInt = (gI z28 42).toInt by rw [ez_308]; rfl)
                  have i_326 := i_eq rfl (show (0 : Int32).toInt = 0 by decide) c_309
                  intro z_310 ez_310
                  have f_327 : 0 ≤ (gI z_308 34).toInt ∧ (gI z_308 34).toInt ≤ 20 := tz_308.1 34
                  have q_328 := (show (gI z_308 34).toInt = (gI z28 34).toInt by rw [ez_308]; rfl)
                  have tz_310 : TM z_310 := by rw [ez_310]; exact Ty_wI tz_308 (show 0 ≤ (gI z_308 34).toInt ∧ (gI z_308 34).toInt ≤ 20 from by omega)
                  have oz_310 : Same [0, 1, 22, 34, 36, 37, 38, 39, 41, 42] [14, 15, 16, 17, 24] z z_310 := oz_308.i (by decide) ez_310
                  intro K_311 hK_329
                  have L_330 : ∀ (n : Nat) (v_312 : Int32) (z_313 : St), TM z_313 → Same [0, 1, 22, 34, 36, 37, 38, 39, 41, 42] [14, 15, 16, 17, 24] z z_313 → (0 ≤ v_312.toInt) → (v_312.toInt ≤ 20) → ((gI z_313 36).toInt = 0) → (20 - v_312.toInt).toNat < n → K_311 v_312 z_313 := by
                    intro n
                    induction n with
                    | zero => intro v_312 z_313 tz_313 ocz_313 w_331 w_332 w_333 m_335; omega
                    | succ n ih_334 =>
                      intro v_312 z_313 tz_313 ocz_313 w_331 w_332 w_333 m_335
                      have f_336 : 0 ≤ (gI z_313 36).toInt ∧ (gI z_313 36).toInt ≤ 300 := tz_313.1 36
                      refine hK_329 v_312 z_313 ?_
                      refine ⟨fun c_314 => ?_, fun c_314 => ?_⟩
                      · skip
                        have f_337 : 0 ≤ (gI z_313 22).toInt ∧ (gI z_313 22).toInt ≤ 20 := tz_313.1 22
                        have i_338 := i_le rfl rfl c_314
                        refine s_X9_told (gI z_313 22) z_313 _ tz_313  (fun r_315 z_316 tz_316 o_340 hp_339 => ?_)
                        have oz_316 : Same [0, 1, 22, 34, 36, 37, 38, 39, 41, 42] [14, 15, 16, 17, 24] z z_316 := ocz_313.tr o_340 (by decide) (by decide)
                        have f_341 : 0 ≤ (gI z_316 36).toInt ∧ (gI z_316 36).toInt ≤ 300 := tz_316.1 36
                        have q_342 := (o_340.fi 36 (by decide))
                        exact hk r_315 z_316 tz_316 oz_316 (by omega)
                      · skip
                        have f_343 : 0 ≤ (gI z_313 22).toInt ∧ (gI z_313 22).toInt ≤ 20 := tz_313.1 22
                        have i_344 := i_nle rfl rfl c_314
                        refine ⟨vin (a_mul (show (4 : Int32).toInt = 4 by decide) rfl (by omega) (by omega)) (by omega) (by omega), ?_⟩
                        refine ⟨vin rfl (by omega) (by omega), ?_⟩
                        intro z_317 ez_317
                        have tz_317 : TM z_317 := by rw [ez_317]; exact Ty_wR tz_313 trivial
                        have oz_317 : Same [0, 1, 22, 34, 36, 37, 38, 39, 41, 42] [14, 15, 16, 17, 24] z z_317 := ocz_313.r (by decide) ez_317
                        refine ⟨vin (a_add (a_mul (show (4 : Int32).toInt = 4 by decide) rfl (by omega) (by omega)) (show (1 : Int32).toInt = 1 by decide) (by omega) (by omega)) (by omega) (by omega), ?_⟩
                        refine ⟨vin rfl (by omega) (by omega), ?_⟩
                        intro z_318 ez_318
                        have tz_318 : TM z_318 := by rw [ez_318]; exact Ty_wR tz_317 trivial
                        have oz_318 : Same [0, 1, 22, 34, 36, 37, 38, 39, 41, 42] [14, 15, 16, 17, 24] z z_318 := oz_317.r (by decide) ez_318
                        refine ⟨vin (a_add (a_mul (show (4 : Int32).toInt = 4 by decide) rfl (by omega) (by omega)) (show (2 : Int32).toInt = 2 by decide) (by omega) (by omega)) (by omega) (by omega), ?_⟩
                        refine ⟨vin rfl (by omega) (by omega), ?_⟩
                        intro z_319 ez_319
                        have tz_319 : TM z_319 := by rw [ez_319]; exact Ty_wR tz_318 trivial
                        have oz_319 : Same [0, 1, 22, 34, 36, 37, 38, 39, 41, 42] [14, 15, 16, 17, 24] z z_319 := oz_318.r (by decide) ez_319
                        refine ⟨vin (a_add (a_mul (show (4 : Int32).toInt = 4 by decide) rfl (by omega) (by omega)) (show (3 : Int32).toInt = 3 by decide) (by omega) (by omega)) (by omega) (by omega), ?_⟩
                        refine ⟨vin rfl (by omega) (by omega), ?_⟩
                        intro z_320 ez_320
                        have tz_320 : TM z_320 := by rw [ez_320]; exact Ty_wR tz_319 trivial
                        have oz_320 : Same [0, 1, 22, 34, 36, 37, 38, 39, 41, 42] [14, 15, 16, 17, 24] z z_320 := oz_319.r (by decide) ez_320
                        intro y_321 ey_321
                        have iy_321 : y_321.toInt = (v_312.toInt + (1)) := by rw [ey_321]; exact (a_add rfl (show (1 : Int32).toInt = 1 by decide) (by omega) (by omega))
                        have f_345 : 0 ≤ (gI z_320 36).toInt ∧ (gI z_320 36).toInt ≤ 300 := tz_320.1 36
                        have q_346 := ((((show (gI z_320 36).toInt = (gI z_319 36).toInt by rw [ez_320]; rfl)).trans (show (gI z_319 36).toInt = (gI z_318 36).toInt by rw [ez_319]; rfl)).trans (show (gI z_318 36).toInt = (gI z_317 36).toInt by rw [ez_318]; rfl)).trans (show (gI z_317 36).toInt = (gI z_313 36).toInt by rw [ez_317]; rfl)
                        exact ih_334 y_321 z_320 tz_320 oz_320 (by omega) (by omega) (by omega) (by omega)
                  have g_347 : (0 : Int32).toInt = 0 := by decide
                  have f_348 : 0 ≤ (gI z_310 36).toInt ∧ (gI z_310 36).toInt ≤ 300 := tz_310.1 36
                  have q_349 := ((show (gI z_310 36).toInt = (gI z_308 36).toInt by rw [ez_310]; rfl)).trans (show (gI z_308 36).toInt = (0 : Int32).toInt by rw [ez_308]; rfl)
                  have q_350 : (0 : Int32).toInt = (0) := (show (0 : Int32).toInt = 0 by decide)
                  exact L_330 ((20 - (0 : Int32).toInt).toNat + 1) ((0 : Int32)) z_310 tz_310 oz_310 (by omega) (by omega) (by omega) (by omega)
                · skip
                  have f_351 : 0 ≤ (gI z_308 42).toInt ∧ (gI z_308 42).toInt ≤ 1 := tz_308.1 42
                  have q_352 := (show (gI z_308 42).toInt = (gI z28 42).toInt by rw [ez_308]; rfl)
                  have i_353 := i_ne rfl (show (0 : Int32).toInt = 0 by decide) c_309
                  have g_354 : (-6 : Int32).toInt = -6 := by decide
                  refine s_X9_told ((-6 : Int32)) z_308 _ tz_308  (fun r_322 z_323 tz_323 o_356 hp_355 => ?_)
                  have oz_323 : Same [0, 1, 22, 34, 36, 37, 38, 39, 41, 42] [14, 15, 16, 17, 24] z z_323 := oz_308.tr o_356 (by decide) (by decide)
                  have f_357 : 0 ≤ (gI z_323 36).toInt ∧ (gI z_323 36).toInt ≤ 300 := tz_323.1 36
                  have q_358 := ((o_356.fi 36 (by decide))).trans (show (gI z_308 36).toInt = (0 : Int32).toInt by rw [ez_308]; rfl)
                  have q_359 : (0 : Int32).toInt = (0) := (show (0 : Int32).toInt = 0 by decide)
                  exact hk r_322 z_323 tz_323 oz_323 (by omega)
              · skip
                have i_360 := i_ne rfl (show (0 : Int32).toInt = 0 by decide) c_251
                have g_361 : (0 : Int32).toInt = 0 := by decide
                refine s_X9_must ((0 : Int32)) z28 _ tz28 (by omega) (fun z_252 tz_252 o_363 hp_362 => ?_)
                have oz_252 : Same [0, 1, 22, 34, 36, 37, 38, 39, 41, 42] [14, 15, 16, 17, 24] z z_252 := ocz28.tr o_363 (by decide) (by decide)
                have f_364 : 0 ≤ (gI z_252 38).toInt ∧ (gI z_252 38).toInt ≤ 300 := tz_252.1 38
                have f_365 : 0 ≤ (gI z_252 42).toInt ∧ (gI z_252 42).toInt ≤ 1 := tz_252.1 42
                refine hK_10 z_252 ?_
                intro z_366 ez_366
                have tz_366 : TM z_366 := by rw [ez_366]; exact Ty_wI tz_252 (show 0 ≤ (0 : Int32).toInt ∧ (0 : Int32).toInt ≤ 300 from by rw [(show (0 : Int32).toInt = 0 by decide)]; omega)
                have oz_366 : Same [0, 1, 22, 34, 36, 37, 38, 39, 41, 42] [14, 15, 16, 17, 24] z z_366 := oz_252.i (by decide) ez_366
                refine ⟨fun c_367 => ?_, fun c_367 => ?_⟩
                · skip
                  have f_382 : 0 ≤ (gI z_366 42).toInt ∧ (gI z_366 42).toInt ≤ 1 := tz_366.1 42
                  have q_383 := (show (gI z_366 42).toInt = (gI z_252 42).toInt by rw [ez_366]; rfl)
                  have i_384 := i_eq rfl (show (0 : Int32).toInt = 0 by decide) c_367
                  intro z_368 ez_368
                  have f_385 : 0 ≤ (gI z_366 34).toInt ∧ (gI z_366 34).toInt ≤ 20 := tz_366.1 34
                  have q_386 := ((show (gI z_366 34).toInt = (gI z_252 34).toInt by rw [ez_366]; rfl)).trans (o_363.fi 34 (by decide))
                  have tz_368 : TM z_368 := by rw [ez_368]; exact Ty_wI tz_366 (show 0 ≤ (gI z_366 34).toInt ∧ (gI z_366 34).toInt ≤ 20 from by omega)
                  have oz_368 : Same [0, 1, 22, 34, 36, 37, 38, 39, 41, 42] [14, 15, 16, 17, 24] z z_368 := oz_366.i (by decide) ez_368
                  intro K_369 hK_387
                  have L_388 : ∀ (n : Nat) (v_370 : Int32) (z_371 : St), TM z_371 → Same [0, 1, 22, 34, 36, 37, 38, 39, 41, 42] [14, 15, 16, 17, 24] z z_371 → (0 ≤ v_370.toInt) → (v_370.toInt ≤ 20) → ((gI z_371 36).toInt = 0) → (20 - v_370.toInt).toNat < n → K_369 v_370 z_371 := by
                    intro n
                    induction n with
                    | zero => intro v_370 z_371 tz_371 ocz_371 w_389 w_390 w_391 m_393; omega
                    | succ n ih_392 =>
                      intro v_370 z_371 tz_371 ocz_371 w_389 w_390 w_391 m_393
                      have f_394 : 0 ≤ (gI z_371 36).toInt ∧ (gI z_371 36).toInt ≤ 300 := tz_371.1 36
                      refine hK_387 v_370 z_371 ?_
                      refine ⟨fun c_372 => ?_, fun c_372 => ?_⟩
                      · skip
                        have f_395 : 0 ≤ (gI z_371 22).toInt ∧ (gI z_371 22).toInt ≤ 20 := tz_371.1 22
                        have i_396 := i_le rfl rfl c_372
                        refine s_X9_told (gI z_371 22) z_371 _ tz_371  (fun r_373 z_374 tz_374 o_398 hp_397 => ?_)
                        have oz_374 : Same [0, 1, 22, 34, 36, 37, 38, 39, 41, 42] [14, 15, 16, 17, 24] z z_374 := ocz_371.tr o_398 (by decide) (by decide)
                        have f_399 : 0 ≤ (gI z_374 36).toInt ∧ (gI z_374 36).toInt ≤ 300 := tz_374.1 36
                        have q_400 := (o_398.fi 36 (by decide))
                        exact hk r_373 z_374 tz_374 oz_374 (by omega)
                      · skip
                        have f_401 : 0 ≤ (gI z_371 22).toInt ∧ (gI z_371 22).toInt ≤ 20 := tz_371.1 22
                        have i_402 := i_nle rfl rfl c_372
                        refine ⟨vin (a_mul (show (4 : Int32).toInt = 4 by decide) rfl (by omega) (by omega)) (by omega) (by omega), ?_⟩
                        refine ⟨vin rfl (by omega) (by omega), ?_⟩
                        intro z_375 ez_375
                        have tz_375 : TM z_375 := by rw [ez_375]; exact Ty_wR tz_371 trivial
                        have oz_375 : Same [0, 1, 22, 34, 36, 37, 38, 39, 41, 42] [14, 15, 16, 17, 24] z z_375 := ocz_371.r (by decide) ez_375
                        refine ⟨vin (a_add (a_mul (show (4 : Int32).toInt = 4 by decide) rfl (by omega) (by omega)) (show (1 : Int32).toInt = 1 by decide) (by omega) (by omega)) (by omega) (by omega), ?_⟩
                        refine ⟨vin rfl (by omega) (by omega), ?_⟩
                        intro z_376 ez_376
                        have tz_376 : TM z_376 := by rw [ez_376]; exact Ty_wR tz_375 trivial
                        have oz_376 : Same [0, 1, 22, 34, 36, 37, 38, 39, 41, 42] [14, 15, 16, 17, 24] z z_376 := oz_375.r (by decide) ez_376
                        refine ⟨vin (a_add (a_mul (show (4 : Int32).toInt = 4 by decide) rfl (by omega) (by omega)) (show (2 : Int32).toInt = 2 by decide) (by omega) (by omega)) (by omega) (by omega), ?_⟩
                        refine ⟨vin rfl (by omega) (by omega), ?_⟩
                        intro z_377 ez_377
                        have tz_377 : TM z_377 := by rw [ez_377]; exact Ty_wR tz_376 trivial
                        have oz_377 : Same [0, 1, 22, 34, 36, 37, 38, 39, 41, 42] [14, 15, 16, 17, 24] z z_377 := oz_376.r (by decide) ez_377
                        refine ⟨vin (a_add (a_mul (show (4 : Int32).toInt = 4 by decide) rfl (by omega) (by omega)) (show (3 : Int32).toInt = 3 by decide) (by omega) (by omega)) (by omega) (by omega), ?_⟩
                        refine ⟨vin rfl (by omega) (by omega), ?_⟩
                        intro z_378 ez_378
                        have tz_378 : TM z_378 := by rw [ez_378]; exact Ty_wR tz_377 trivial
                        have oz_378 : Same [0, 1, 22, 34, 36, 37, 38, 39, 41, 42] [14, 15, 16, 17, 24] z z_378 := oz_377.r (by decide) ez_378
                        intro y_379 ey_379
                        have iy_379 : y_379.toInt = (v_370.toInt + (1)) := by rw [ey_379]; exact (a_add rfl (show (1 : Int32).toInt = 1 by decide) (by omega) (by omega))
                        have f_403 : 0 ≤ (gI z_378 36).toInt ∧ (gI z_378 36).toInt ≤ 300 := tz_378.1 36
                        have q_404 := ((((show (gI z_378 36).toInt = (gI z_377 36).toInt by rw [ez_378]; rfl)).trans (show (gI z_377 36).toInt = (gI z_376 36).toInt by rw [ez_377]; rfl)).trans (show (gI z_376 36).toInt = (gI z_375 36).toInt by rw [ez_376]; rfl)).trans (show (gI z_375 36).toInt = (gI z_371 36).toInt by rw [ez_375]; rfl)
                        exact ih_392 y_379 z_378 tz_378 oz_378 (by omega) (by omega) (by omega) (by omega)
                  have g_405 : (0 : Int32).toInt = 0 := by decide
                  have f_406 : 0 ≤ (gI z_368 36).toInt ∧ (gI z_368 36).toInt ≤ 300 := tz_368.1 36
                  have q_407 := ((show (gI z_368 36).toInt = (gI z_366 36).toInt by rw [ez_368]; rfl)).trans (show (gI z_366 36).toInt = (0 : Int32).toInt by rw [ez_366]; rfl)
                  have q_408 : (0 : Int32).toInt = (0) := (show (0 : Int32).toInt = 0 by decide)
                  exact L_388 ((20 - (0 : Int32).toInt).toNat + 1) ((0 : Int32)) z_368 tz_368 oz_368 (by omega) (by omega) (by omega) (by omega)
                · skip
                  have f_409 : 0 ≤ (gI z_366 42).toInt ∧ (gI z_366 42).toInt ≤ 1 := tz_366.1 42
                  have q_410 := (show (gI z_366 42).toInt = (gI z_252 42).toInt by rw [ez_366]; rfl)
                  have i_411 := i_ne rfl (show (0 : Int32).toInt = 0 by decide) c_367
                  have g_412 : (-6 : Int32).toInt = -6 := by decide
                  refine s_X9_told ((-6 : Int32)) z_366 _ tz_366  (fun r_380 z_381 tz_381 o_414 hp_413 => ?_)
                  have oz_381 : Same [0, 1, 22, 34, 36, 37, 38, 39, 41, 42] [14, 15, 16, 17, 24] z z_381 := oz_366.tr o_414 (by decide) (by decide)
                  have f_415 : 0 ≤ (gI z_381 36).toInt ∧ (gI z_381 36).toInt ≤ 300 := tz_381.1 36
                  have q_416 := ((o_414.fi 36 (by decide))).trans (show (gI z_366 36).toInt = (0 : Int32).toInt by rw [ez_366]; rfl)
                  have q_417 : (0 : Int32).toInt = (0) := (show (0 : Int32).toInt = 0 by decide)
                  exact hk r_380 z_381 tz_381 oz_381 (by omega)
          · skip
            have i_418 := i_eq rfl (show (3 : Int32).toInt = 3 by decide) c35
            refine ⟨fun c36 => ?_, fun c36 => ?_⟩
            · skip
              refine hK_78  ?_
              refine ⟨fun c_419 => ?_, fun c_419 => ?_⟩
              · skip
                have i_422 := i_ne rfl (show (0 : Int32).toInt = 0 by decide) c_419
                refine hK_10 z28 ?_
                intro z_423 ez_423
                have tz_423 : TM z_423 := by rw [ez_423]; exact Ty_wI tz28 (show 0 ≤ (0 : Int32).toInt ∧ (0 : Int32).toInt ≤ 300 from by rw [(show (0 : Int32).toInt = 0 by decide)]; omega)
                have oz_423 : Same [0, 1, 22, 34, 36, 37, 38, 39, 41, 42] [14, 15, 16, 17, 24] z z_423 := ocz28.i (by decide) ez_423
                refine ⟨fun c_424 => ?_, fun c_424 => ?_⟩
                · skip
                  have f_439 : 0 ≤ (gI z_423 42).toInt ∧ (gI z_423 42).toInt ≤ 1 := tz_423.1 42
                  have q_440 := (show (gI z_423 42).toInt = (gI z28 42).toInt by rw [ez_423]; rfl)
                  have i_441 := i_eq rfl (show (0 : Int32).toInt = 0 by decide) c_424
                  intro z_425 ez_425
                  have f_442 : 0 ≤ (gI z_423 34).toInt ∧ (gI z_423 34).toInt ≤ 20 := tz_423.1 34
                  have q_443 := (show (gI z_423 34).toInt = (gI z28 34).toInt by rw [ez_423]; rfl)
                  have tz_425 : TM z_425 := by rw [ez_425]; exact Ty_wI tz_423 (show 0 ≤ (gI z_423 34).toInt ∧ (gI z_423 34).toInt ≤ 20 from by omega)
                  have oz_425 : Same [0, 1, 22, 34, 36, 37, 38, 39, 41, 42] [14, 15, 16, 17, 24] z z_425 := oz_423.i (by decide) ez_425
                  intro K_426 hK_444
                  have L_445 : ∀ (n : Nat) (v_427 : Int32) (z_428 : St), TM z_428 → Same [0, 1, 22, 34, 36, 37, 38, 39, 41, 42] [14, 15, 16, 17, 24] z z_428 → (0 ≤ v_427.toInt) → (v_427.toInt ≤ 20) → ((gI z_428 36).toInt = 0) → (20 - v_427.toInt).toNat < n → K_426 v_427 z_428 := by
                    intro n
                    induction n with
                    | zero => intro v_427 z_428 tz_428 ocz_428 w_446 w_447 w_448 m_450; omega
                    | succ n ih_449 =>
                      intro v_427 z_428 tz_428 ocz_428 w_446 w_447 w_448 m_450
                      have f_451 : 0 ≤ (gI z_428 36).toInt ∧ (gI z_428 36).toInt ≤ 300 := tz_428.1 36
                      refine hK_444 v_427 z_428 ?_
                      refine ⟨fun c_429 => ?_, fun c_429 => ?_⟩
                      · skip
                        have f_452 : 0 ≤ (gI z_428 22).toInt ∧ (gI z_428 22).toInt ≤ 20 := tz_428.1 22
                        have i_453 := i_le rfl rfl c_429
                        refine s_X9_told (gI z_428 22) z_428 _ tz_428  (fun r_430 z_431 tz_431 o_455 hp_454 => ?_)
                        have oz_431 : Same [0, 1, 22, 34, 36, 37, 38, 39, 41, 42] [14, 15, 16, 17, 24] z z_431 := ocz_428.tr o_455 (by decide) (by decide)
                        have f_456 : 0 ≤ (gI z_431 36).toInt ∧ (gI z_431 36).toInt ≤ 300 := tz_431.1 36
                        have q_457 := (o_455.fi 36 (by decide))
                        exact hk r_430 z_431 tz_431 oz_431 (by omega)
                      · skip
                        have f_458 : 0 ≤ (gI z_428 22).toInt ∧ (gI z_428 22).toInt ≤ 20 := tz_428.1 22
                        have i_459 := i_nle rfl rfl c_429
                        refine ⟨vin (a_mul (show (4 : Int32).toInt = 4 by decide) rfl (by omega) (by omega)) (by omega) (by omega), ?_⟩
                        refine ⟨vin rfl (by omega) (by omega), ?_⟩
                        intro z_432 ez_432
                        have tz_432 : TM z_432 := by rw [ez_432]; exact Ty_wR tz_428 trivial
                        have oz_432 : Same [0, 1, 22, 34, 36, 37, 38, 39, 41, 42] [14, 15, 16, 17, 24] z z_432 := ocz_428.r (by decide) ez_432
                        refine ⟨vin (a_add (a_mul (show (4 : Int32).toInt = 4 by decide) rfl (by omega) (by omega)) (show (1 : Int32).toInt = 1 by decide) (by omega) (by omega)) (by omega) (by omega), ?_⟩
                        refine ⟨vin rfl (by omega) (by omega), ?_⟩
                        intro z_433 ez_433
                        have tz_433 : TM z_433 := by rw [ez_433]; exact Ty_wR tz_432 trivial
                        have oz_433 : Same [0, 1, 22, 34, 36, 37, 38, 39, 41, 42] [14, 15, 16, 17, 24] z z_433 := oz_432.r (by decide) ez_433
                        refine ⟨vin (a_add (a_mul (show (4 : Int32).toInt = 4 by decide) rfl (by omega) (by omega)) (show (2 : Int32).toInt = 2 by decide) (by omega) (by omega)) (by omega) (by omega), ?_⟩
                        refine ⟨vin rfl (by omega) (by omega), ?_⟩
                        intro z_434 ez_434
                        have tz_434 : TM z_434 := by rw [ez_434]; exact Ty_wR tz_433 trivial
                        have oz_434 : Same [0, 1, 22, 34, 36, 37, 38, 39, 41, 42] [14, 15, 16, 17, 24] z z_434 := oz_433.r (by decide) ez_434
                        refine ⟨vin (a_add (a_mul (show (4 : Int32).toInt = 4 by decide) rfl (by omega) (by omega)) (show (3 : Int32).toInt = 3 by decide) (by omega) (by omega)) (by omega) (by omega), ?_⟩
                        refine ⟨vin rfl (by omega) (by omega), ?_⟩
                        intro z_435 ez_435
                        have tz_435 : TM z_435 := by rw [ez_435]; exact Ty_wR tz_434 trivial
                        have oz_435 : Same [0, 1, 22, 34, 36, 37, 38, 39, 41, 42] [14, 15, 16, 17, 24] z z_435 := oz_434.r (by decide) ez_435
                        intro y_436 ey_436
                        have iy_436 : y_436.toInt = (v_427.toInt + (1)) := by rw [ey_436]; exact (a_add rfl (show (1 : Int32).toInt = 1 by decide) (by omega) (by omega))
                        have f_460 : 0 ≤ (gI z_435 36).toInt ∧ (gI z_435 36).toInt ≤ 300 := tz_435.1 36
                        have q_461 := ((((show (gI z_435 36).toInt = (gI z_434 36).toInt by rw [ez_435]; rfl)).trans (show (gI z_434 36).toInt = (gI z_433 36).toInt by rw [ez_434]; rfl)).trans (show (gI z_433 36).toInt = (gI z_432 36).toInt by rw [ez_433]; rfl)).trans (show (gI z_432 36).toInt = (gI z_428 36).toInt by rw [ez_432]; rfl)
                        exact ih_449 y_436 z_435 tz_435 oz_435 (by omega) (by omega) (by omega) (by omega)
                  have g_462 : (0 : Int32).toInt = 0 := by decide
                  have f_463 : 0 ≤ (gI z_425 36).toInt ∧ (gI z_425 36).toInt ≤ 300 := tz_425.1 36
                  have q_464 := ((show (gI z_425 36).toInt = (gI z_423 36).toInt by rw [ez_425]; rfl)).trans (show (gI z_423 36).toInt = (0 : Int32).toInt by rw [ez_423]; rfl)
                  have q_465 : (0 : Int32).toInt = (0) := (show (0 : Int32).toInt = 0 by decide)
                  exact L_445 ((20 - (0 : Int32).toInt).toNat + 1) ((0 : Int32)) z_425 tz_425 oz_425 (by omega) (by omega) (by omega) (by omega)
                · skip
                  have f_466 : 0 ≤ (gI z_423 42).toInt ∧ (gI z_423 42).toInt ≤ 1 := tz_423.1 42
                  have q_467 := (show (gI z_423 42).toInt = (gI z28 42).toInt by rw [ez_423]; rfl)
                  have i_468 := i_ne rfl (show (0 : Int32).toInt = 0 by decide) c_424
                  have g_469 : (-6 : Int32).toInt = -6 := by decide
                  refine s_X9_told ((-6 : Int32)) z_423 _ tz_423  (fun r_437 z_438 tz_438 o_471 hp_470 => ?_)
                  have oz_438 : Same [0, 1, 22, 34, 36, 37, 38, 39, 41, 42] [14, 15, 16, 17, 24] z z_438 := oz_423.tr o_471 (by decide) (by decide)
                  have f_472 : 0 ≤ (gI z_438 36).toInt ∧ (gI z_438 36).toInt ≤ 300 := tz_438.1 36
                  have q_473 := ((o_471.fi 36 (by decide))).trans (show (gI z_423 36).toInt = (0 : Int32).toInt by rw [ez_423]; rfl)
                  have q_474 : (0 : Int32).toInt = (0) := (show (0 : Int32).toInt = 0 by decide)
                  exact hk r_437 z_438 tz_438 oz_438 (by omega)
              · skip
                have i_475 := i_eq rfl (show (0 : Int32).toInt = 0 by decide) c_419
                refine ⟨fun c_420 => ?_, fun c_420 => ?_⟩
                · skip
                  have i_476 := i_eq rfl (show (0 : Int32).toInt = 0 by decide) c_420
                  refine hK_10 z28 ?_
                  intro z_477 ez_477
                  have tz_477 : TM z_477 := by rw [ez_477]; exact Ty_wI tz28 (show 0 ≤ (0 : Int32).toInt ∧ (0 : Int32).toInt ≤ 300 from by rw [(show (0 : Int32).toInt = 0 by decide)]; omega)
                  have oz_477 : Same [0, 1, 22, 34, 36, 37, 38, 39, 41, 42] [14, 15, 16, 17, 24] z z_477 := ocz28.i (by decide) ez_477
                  refine ⟨fun c_478 => ?_, fun c_478 => ?_⟩
                  · skip
                    have f_493 : 0 ≤ (gI z_477 42).toInt ∧ (gI z_477 42).toInt ≤ 1 := tz_477.1 42
                    have q_494 := (show (gI z_477 42).toInt = (gI z28 42).toInt by rw [ez_477]; rfl)
                    have i_495 := i_eq rfl (show (0 : Int32).toInt = 0 by decide) c_478
                    intro z_479 ez_479
                    have f_496 : 0 ≤ (gI z_477 34).toInt ∧ (gI z_477 34).toInt ≤ 20 := tz_477.1 34
                    have q_497 := (show (gI z_477 34).toInt = (gI z28 34).toInt by rw [ez_477]; rfl)
                    have tz_479 : TM z_479 := by rw [ez_479]; exact Ty_wI tz_477 (show 0 ≤ (gI z_477 34).toInt ∧ (gI z_477 34).toInt ≤ 20 from by omega)
                    have oz_479 : Same [0, 1, 22, 34, 36, 37, 38, 39, 41, 42] [14, 15, 16, 17, 24] z z_479 := oz_477.i (by decide) ez_479
                    intro K_480 hK_498
                    have L_499 : ∀ (n : Nat) (v_481 : Int32) (z_482 : St), TM z_482 → Same [0, 1, 22, 34, 36, 37, 38, 39, 41, 42] [14, 15, 16, 17, 24] z z_482 → (0 ≤ v_481.toInt) → (v_481.toInt ≤ 20) → ((gI z_482 36).toInt = 0) → (20 - v_481.toInt).toNat < n → K_480 v_481 z_482 := by
                      intro n
                      induction n with
                      | zero => intro v_481 z_482 tz_482 ocz_482 w_500 w_501 w_502 m_504; omega
                      | succ n ih_503 =>
                        intro v_481 z_482 tz_482 ocz_482 w_500 w_501 w_502 m_504
                        have f_505 : 0 ≤ (gI z_482 36).toInt ∧ (gI z_482 36).toInt ≤ 300 := tz_482.1 36
                        refine hK_498 v_481 z_482 ?_
                        refine ⟨fun c_483 => ?_, fun c_483 => ?_⟩
                        · skip
                          have f_506 : 0 ≤ (gI z_482 22).toInt ∧ (gI z_482 22).toInt ≤ 20 := tz_482.1 22
                          have i_507 := i_le rfl rfl c_483
                          refine s_X9_told (gI z_482 22) z_482 _ tz_482  (fun r_484 z_485 tz_485 o_509 hp_508 => ?_)
                          have oz_485 : Same [0, 1, 22, 34, 36, 37, 38, 39, 41, 42] [14, 15, 16, 17, 24] z z_485 := ocz_482.tr o_509 (by decide) (by decide)
                          have f_510 : 0 ≤ (gI z_485 36).toInt ∧ (gI z_485 36).toInt ≤ 300 := tz_485.1 36
                          have q_511 := (o_509.fi 36 (by decide))
                          exact hk r_484 z_485 tz_485 oz_485 (by omega)
                        · skip
                          have f_512 : 0 ≤ (gI z_482 22).toInt ∧ (gI z_482 22).toInt ≤ 20 := tz_482.1 22
                          have i_513 := i_nle rfl rfl c_483
                          refine ⟨vin (a_mul (show (4 : Int32).toInt = 4 by decide) rfl (by omega) (by omega)) (by omega) (by omega), ?_⟩
                          refine ⟨vin rfl (by omega) (by omega), ?_⟩
                          intro z_486 ez_486
                          have tz_486 : TM z_486 := by rw [ez_486]; exact Ty_wR tz_482 trivial
                          have oz_486 : Same [0, 1, 22, 34, 36, 37, 38, 39, 41, 42] [14, 15, 16, 17, 24] z z_486 := ocz_482.r (by decide) ez_486
                          refine ⟨vin (a_add (a_mul (show (4 : Int32).toInt = 4 by decide) rfl (by omega) (by omega)) (show (1 : Int32).toInt = 1 by decide) (by omega) (by omega)) (by omega) (by omega), ?_⟩
                          refine ⟨vin rfl (by omega) (by omega), ?_⟩
                          intro z_487 ez_487
                          have tz_487 : TM z_487 := by rw [ez_487]; exact Ty_wR tz_486 trivial
                          have oz_487 : Same [0, 1, 22, 34, 36, 37, 38, 39, 41, 42] [14, 15, 16, 17, 24] z z_487 := oz_486.r (by decide) ez_487
                          refine ⟨vin (a_add (a_mul (show (4 : Int32).toInt = 4 by decide) rfl (by omega) (by omega)) (show (2 : Int32).toInt = 2 by decide) (by omega) (by omega)) (by omega) (by omega), ?_⟩
                          refine ⟨vin rfl (by omega) (by omega), ?_⟩
                          intro z_488 ez_488
                          have tz_488 : TM z_488 := by rw [ez_488]; exact Ty_wR tz_487 trivial
                          have oz_488 : Same [0, 1, 22, 34, 36, 37, 38, 39, 41, 42] [14, 15, 16, 17, 24] z z_488 := oz_487.r (by decide) ez_488
                          refine ⟨vin (a_add (a_mul (show (4 : Int32).toInt = 4 by decide) rfl (by omega) (by omega)) (show (3 : Int32).toInt = 3 by decide) (by omega) (by omega)) (by omega) (by omega), ?_⟩
                          refine ⟨vin rfl (by omega) (by omega), ?_⟩
                          intro z_489 ez_489
                          have tz_489 : TM z_489 := by rw [ez_489]; exact Ty_wR tz_488 trivial
                          have oz_489 : Same [0, 1, 22, 34, 36, 37, 38, 39, 41, 42] [14, 15, 16, 17, 24] z z_489 := oz_488.r (by decide) ez_489
                          intro y_490 ey_490
                          have iy_490 : y_490.toInt = (v_481.toInt + (1)) := by rw [ey_490]; exact (a_add rfl (show (1 : Int32).toInt = 1 by decide) (by omega) (by omega))
                          have f_514 : 0 ≤ (gI z_489 36).toInt ∧ (gI z_489 36).toInt ≤ 300 := tz_489.1 36
                          have q_515 := ((((show (gI z_489 36).toInt = (gI z_488 36).toInt by rw [ez_489]; rfl)).trans (show (gI z_488 36).toInt = (gI z_487 36).toInt by rw [ez_488]; rfl)).trans (show (gI z_487 36).toInt = (gI z_486 36).toInt by rw [ez_487]; rfl)).trans (show (gI z_486 36).toInt = (gI z_482 36).toInt by rw [ez_486]; rfl)
                          exact ih_503 y_490 z_489 tz_489 oz_489 (by omega) (by omega) (by omega) (by omega)
                    have g_516 : (0 : Int32).toInt = 0 := by decide
                    have f_517 : 0 ≤ (gI z_479 36).toInt ∧ (gI z_479 36).toInt ≤ 300 := tz_479.1 36
                    have q_518 := ((show (gI z_479 36).toInt = (gI z_477 36).toInt by rw [ez_479]; rfl)).trans (show (gI z_477 36).toInt = (0 : Int32).toInt by rw [ez_477]; rfl)
                    have q_519 : (0 : Int32).toInt = (0) := (show (0 : Int32).toInt = 0 by decide)
                    exact L_499 ((20 - (0 : Int32).toInt).toNat + 1) ((0 : Int32)) z_479 tz_479 oz_479 (by omega) (by omega) (by omega) (by omega)
                  · skip
                    have f_520 : 0 ≤ (gI z_477 42).toInt ∧ (gI z_477 42).toInt ≤ 1 := tz_477.1 42
                    have q_521 := (show (gI z_477 42).toInt = (gI z28 42).toInt by rw [ez_477]; rfl)
                    have i_522 := i_ne rfl (show (0 : Int32).toInt = 0 by decide) c_478
                    have g_523 : (-6 : Int32).toInt = -6 := by decide
                    refine s_X9_told ((-6 : Int32)) z_477 _ tz_477  (fun r_491 z_492 tz_492 o_525 hp_524 => ?_)
                    have oz_492 : Same [0, 1, 22, 34, 36, 37, 38, 39, 41, 42] [14, 15, 16, 17, 24] z z_492 := oz_477.tr o_525 (by decide) (by decide)
                    have f_526 : 0 ≤ (gI z_492 36).toInt ∧ (gI z_492 36).toInt ≤ 300 := tz_492.1 36
                    have q_527 := ((o_525.fi 36 (by decide))).trans (show (gI z_477 36).toInt = (0 : Int32).toInt by rw [ez_477]; rfl)
                    have q_528 : (0 : Int32).toInt = (0) := (show (0 : Int32).toInt = 0 by decide)
                    exact hk r_491 z_492 tz_492 oz_492 (by omega)
                · skip
                  have i_529 := i_ne rfl (show (0 : Int32).toInt = 0 by decide) c_420
                  have g_530 : (0 : Int32).toInt = 0 := by decide
                  refine s_X9_must ((0 : Int32)) z28 _ tz28 (by omega) (fun z_421 tz_421 o_532 hp_531 => ?_)
                  have oz_421 : Same [0, 1, 22, 34, 36, 37, 38, 39, 41, 42] [14, 15, 16, 17, 24] z z_421 := ocz28.tr o_532 (by decide) (by decide)
                  have f_533 : 0 ≤ (gI z_421 38).toInt ∧ (gI z_421 38).toInt ≤ 300 := tz_421.1 38
                  have f_534 : 0 ≤ (gI z_421 42).toInt ∧ (gI z_421 42).toInt ≤ 1 := tz_421.1 42
                  refine hK_10 z_421 ?_
                  intro z_535 ez_535
                  have tz_535 : TM z_535 := by rw [ez_535]; exact Ty_wI tz_421 (show 0 ≤ (0 : Int32).toInt ∧ (0 : Int32).toInt ≤ 300 from by rw [(show (0 : Int32).toInt = 0 by decide)]; omega)
                  have oz_535 : Same [0, 1, 22, 34, 36, 37, 38, 39, 41, 42] [14, 15, 16, 17, 24] z z_535 := oz_421.i (by decide) ez_535
                  refine ⟨fun c_536 => ?_, fun c_536 => ?_⟩
                  · skip
                    have f_551 : 0 ≤ (gI z_535 42).toInt ∧ (gI z_535 42).toInt ≤ 1 := tz_535.1 42
                    have q_552 := (show (gI z_535 42).toInt = (gI z_421 42).toInt by rw [ez_535]; rfl)
                    have i_553 := i_eq rfl (show (0 : Int32).toInt = 0 by decide) c_536
                    intro z_537 ez_537
                    have f_554 : 0 ≤ (gI z_535 34).toInt ∧ (gI z_535 34).toInt ≤ 20 := tz_535.1 34
                    have q_555 := ((show (gI z_535 34).toInt = (gI z_421 34).toInt by rw [ez_535]; rfl)).trans (o_532.fi 34 (by decide))
                    have tz_537 : TM z_537 := by rw [ez_537]; exact Ty_wI tz_535 (show 0 ≤ (gI z_535 34).toInt ∧ (gI z_535 34).toInt ≤ 20 from by omega)
                    have oz_537 : Same [0, 1, 22, 34, 36, 37, 38, 39, 41, 42] [14, 15, 16, 17, 24] z z_537 := oz_535.i (by decide) ez_537
                    intro K_538 hK_556
                    have L_557 : ∀ (n : Nat) (v_539 : Int32) (z_540 : St), TM z_540 → Same [0, 1, 22, 34, 36, 37, 38, 39, 41, 42] [14, 15, 16, 17, 24] z z_540 → (0 ≤ v_539.toInt) → (v_539.toInt ≤ 20) → ((gI z_540 36).toInt = 0) → (20 - v_539.toInt).toNat < n → K_538 v_539 z_540 := by
                      intro n
                      induction n with
                      | zero => intro v_539 z_540 tz_540 ocz_540 w_558 w_559 w_560 m_562; omega
                      | succ n ih_561 =>
                        intro v_539 z_540 tz_540 ocz_540 w_558 w_559 w_560 m_562
                        have f_563 : 0 ≤ (gI z_540 36).toInt ∧ (gI z_540 36).toInt ≤ 300 := tz_540.1 36
                        refine hK_556 v_539 z_540 ?_
                        refine ⟨fun c_541 => ?_, fun c_541 => ?_⟩
                        · skip
                          have f_564 : 0 ≤ (gI z_540 22).toInt ∧ (gI z_540 22).toInt ≤ 20 := tz_540.1 22
                          have i_565 := i_le rfl rfl c_541
                          refine s_X9_told (gI z_540 22) z_540 _ tz_540  (fun r_542 z_543 tz_543 o_567 hp_566 => ?_)
                          have oz_543 : Same [0, 1, 22, 34, 36, 37, 38, 39, 41, 42] [14, 15, 16, 17, 24] z z_543 := ocz_540.tr o_567 (by decide) (by decide)
                          have f_568 : 0 ≤ (gI z_543 36).toInt ∧ (gI z_543 36).toInt ≤ 300 := tz_543.1 36
                          have q_569 := (o_567.fi 36 (by decide))
                          exact hk r_542 z_543 tz_543 oz_543 (by omega)
                        · skip
                          have f_570 : 0 ≤ (gI z_540 22).toInt ∧ (gI z_540 22).toInt ≤ 20 := tz_540.1 22
                          have i_571 := i_nle rfl rfl c_541
                          refine ⟨vin (a_mul (show (4 : Int32).toInt = 4 by decide) rfl (by omega) (by omega)) (by omega) (by omega), ?_⟩
                          refine ⟨vin rfl (by omega) (by omega), ?_⟩
                          intro z_544 ez_544
                          have tz_544 : TM z_544 := by rw [ez_544]; exact Ty_wR tz_540 trivial
                          have oz_544 : Same [0, 1, 22, 34, 36, 37, 38, 39, 41, 42] [14, 15, 16, 17, 24] z z_544 := ocz_540.r (by decide) ez_544
                          refine ⟨vin (a_add (a_mul (show (4 : Int32).toInt = 4 by decide) rfl (by omega) (by omega)) (show (1 : Int32).toInt = 1 by decide) (by omega) (by omega)) (by omega) (by omega), ?_⟩
                          refine ⟨vin rfl (by omega) (by omega), ?_⟩
                          intro z_545 ez_545
                          have tz_545 : TM z_545 := by rw [ez_545]; exact Ty_wR tz_544 trivial
                          have oz_545 : Same [0, 1, 22, 34, 36, 37, 38, 39, 41, 42] [14, 15, 16, 17, 24] z z_545 := oz_544.r (by decide) ez_545
                          refine ⟨vin (a_add (a_mul (show (4 : Int32).toInt = 4 by decide) rfl (by omega) (by omega)) (show (2 : Int32).toInt = 2 by decide) (by omega) (by omega)) (by omega) (by omega), ?_⟩
                          refine ⟨vin rfl (by omega) (by omega), ?_⟩
                          intro z_546 ez_546
                          have tz_546 : TM z_546 := by rw [ez_546]; exact Ty_wR tz_545 trivial
                          have oz_546 : Same [0, 1, 22, 34, 36, 37, 38, 39, 41, 42] [14, 15, 16, 17, 24] z z_546 := oz_545.r (by decide) ez_546
                          refine ⟨vin (a_add (a_mul (show (4 : Int32).toInt = 4 by decide) rfl (by omega) (by omega)) (show (3 : Int32).toInt = 3 by decide) (by omega) (by omega)) (by omega) (by omega), ?_⟩
                          refine ⟨vin rfl (by omega) (by omega), ?_⟩
                          intro z_547 ez_547
                          have tz_547 : TM z_547 := by rw [ez_547]; exact Ty_wR tz_546 trivial
                          have oz_547 : Same [0, 1, 22, 34, 36, 37, 38, 39, 41, 42] [14, 15, 16, 17, 24] z z_547 := oz_546.r (by decide) ez_547
                          intro y_548 ey_548
                          have iy_548 : y_548.toInt = (v_539.toInt + (1)) := by rw [ey_548]; exact (a_add rfl (show (1 : Int32).toInt = 1 by decide) (by omega) (by omega))
                          have f_572 : 0 ≤ (gI z_547 36).toInt ∧ (gI z_547 36).toInt ≤ 300 := tz_547.1 36
                          have q_573 := ((((show (gI z_547 36).toInt = (gI z_546 36).toInt by rw [ez_547]; rfl)).trans (show (gI z_546 36).toInt = (gI z_545 36).toInt by rw [ez_546]; rfl)).trans (show (gI z_545 36).toInt = (gI z_544 36).toInt by rw [ez_545]; rfl)).trans (show (gI z_544 36).toInt = (gI z_540 36).toInt by rw [ez_544]; rfl)
                          exact ih_561 y_548 z_547 tz_547 oz_547 (by omega) (by omega) (by omega) (by omega)
                    have g_574 : (0 : Int32).toInt = 0 := by decide
                    have f_575 : 0 ≤ (gI z_537 36).toInt ∧ (gI z_537 36).toInt ≤ 300 := tz_537.1 36
                    have q_576 := ((show (gI z_537 36).toInt = (gI z_535 36).toInt by rw [ez_537]; rfl)).trans (show (gI z_535 36).toInt = (0 : Int32).toInt by rw [ez_535]; rfl)
                    have q_577 : (0 : Int32).toInt = (0) := (show (0 : Int32).toInt = 0 by decide)
                    exact L_557 ((20 - (0 : Int32).toInt).toNat + 1) ((0 : Int32)) z_537 tz_537 oz_537 (by omega) (by omega) (by omega) (by omega)
                  · skip
                    have f_578 : 0 ≤ (gI z_535 42).toInt ∧ (gI z_535 42).toInt ≤ 1 := tz_535.1 42
                    have q_579 := (show (gI z_535 42).toInt = (gI z_421 42).toInt by rw [ez_535]; rfl)
                    have i_580 := i_ne rfl (show (0 : Int32).toInt = 0 by decide) c_536
                    have g_581 : (-6 : Int32).toInt = -6 := by decide
                    refine s_X9_told ((-6 : Int32)) z_535 _ tz_535  (fun r_549 z_550 tz_550 o_583 hp_582 => ?_)
                    have oz_550 : Same [0, 1, 22, 34, 36, 37, 38, 39, 41, 42] [14, 15, 16, 17, 24] z z_550 := oz_535.tr o_583 (by decide) (by decide)
                    have f_584 : 0 ≤ (gI z_550 36).toInt ∧ (gI z_550 36).toInt ≤ 300 := tz_550.1 36
                    have q_585 := ((o_583.fi 36 (by decide))).trans (show (gI z_535 36).toInt = (0 : Int32).toInt by rw [ez_535]; rfl)
                    have q_586 : (0 : Int32).toInt = (0) := (show (0 : Int32).toInt = 0 by decide)
                    exact hk r_549 z_550 tz_550 oz_550 (by omega)
            · skip
              refine s_X9_next  z28 _ tz28 (by omega) (fun z37 tz37 o_588 hp_587 => ?_)
              have oz37 : Same [0, 1, 22, 34, 36, 37, 38, 39, 41, 42] [14, 15, 16, 17, 24] z z37 := ocz28.tr o_588 (by decide) (by decide)
              have f_589 : 0 ≤ (gI z37 38).toInt ∧ (gI z37 38).toInt ≤ 300 := tz37.1 38
              have f_590 : 0 ≤ (gI z37 36).toInt ∧ (gI z37 36).toInt ≤ 300 := tz37.1 36
              have q_591 := (o_588.fi 36 (by decide))
              refine s_X9_readRule  z37 _ tz37 (by omega) (fun z39 tz39 o_593 hp_592 => ?_)
              have oz39 : Same [0, 1, 22, 34, 36, 37, 38, 39, 41, 42] [14, 15, 16, 17, 24] z z39 := oz37.tr o_593 (by decide) (by decide)
              have f_594 : 0 ≤ (gI z39 38).toInt ∧ (gI z39 38).toInt ≤ 300 := tz39.1 38
              have f_595 : 0 ≤ (gI z39 42).toInt ∧ (gI z39 42).toInt ≤ 1 := tz39.1 42
              have f_596 : 0 ≤ (gI z39 34).toInt ∧ (gI z39 34).toInt ≤ 20 := tz39.1 34
              have f_597 : 0 ≤ (gI z37 34).toInt ∧ (gI z37 34).toInt ≤ 20 := tz37.1 34
              have q_598 := (o_588.fi 34 (by decide))
              have f_599 : 0 ≤ (gI z39 36).toInt ∧ (gI z39 36).toInt ≤ 300 := tz39.1 36
              have q_600 := ((o_593.fi 36 (by decide))).trans (o_588.fi 36 (by decide))
              exact ih_72  z39 tz39 oz39 (by omega) (by omega) (by omega)
    have f_601 : 0 ≤ (gI z6 36).toInt ∧ (gI z6 36).toInt ≤ 300 := tz6.1 36
    have q_602 := ((((((o_8.fi 36 (by decide))).trans (show (gI z5 36).toInt = (gI z4 36).toInt by rw [ez5]; rfl)).trans (show (gI z4 36).toInt = (gI z3 36).toInt by rw [ez4]; rfl)).trans (show (gI z3 36).toInt = (gI z2 36).toInt by rw [ez3]; rfl)).trans (show (gI z2 36).toInt = (gI z1 36).toInt by rw [ez2]; rfl)).trans (show (gI z1 36).toInt = (gI z 36).toInt by rw [ez1]; rfl)
    refine s_X9_readRule  z6 _ tz6 (by omega) (fun z41 tz41 o_604 hp_603 => ?_)
    have oz41 : Same [0, 1, 22, 34, 36, 37, 38, 39, 41, 42] [14, 15, 16, 17, 24] z z41 := oz6.tr o_604 (by decide) (by decide)
    have f_605 : 0 ≤ (gI z41 38).toInt ∧ (gI z41 38).toInt ≤ 300 := tz41.1 38
    have f_606 : 0 ≤ (gI z41 42).toInt ∧ (gI z41 42).toInt ≤ 1 := tz41.1 42
    have f_607 : 0 ≤ (gI z41 34).toInt ∧ (gI z41 34).toInt ≤ 20 := tz41.1 34
    have f_608 : 0 ≤ (gI z6 34).toInt ∧ (gI z6 34).toInt ≤ 20 := tz6.1 34
    have q_609 := ((o_8.fi 34 (by decide))).trans (show (gI z5 34).toInt = (0 : Int32).toInt by rw [ez5]; rfl)
    have q_610 : (0 : Int32).toInt = (0) := (show (0 : Int32).toInt = 0 by decide)
    have f_611 : 0 ≤ (gI z41 36).toInt ∧ (gI z41 36).toInt ≤ 300 := tz41.1 36
    have q_612 := (((((((o_604.fi 36 (by decide))).trans (o_8.fi 36 (by decide))).trans (show (gI z5 36).toInt = (gI z4 36).toInt by rw [ez5]; rfl)).trans (show (gI z4 36).toInt = (gI z3 36).toInt by rw [ez4]; rfl)).trans (show (gI z3 36).toInt = (gI z2 36).toInt by rw [ez3]; rfl)).trans (show (gI z2 36).toInt = (gI z1 36).toInt by rw [ez2]; rfl)).trans (show (gI z1 36).toInt = (gI z 36).toInt by rw [ez1]; rfl)
    exact L_69 ((22 - (gI z41 34).toInt - (gI z41 42).toInt).toNat + 1)  z41 tz41 oz41 (by omega) (by omega) (by omega)

set_option maxHeartbeats 2000000 in
theorem s_X9_fault  (z : St) (P : Int32 → St → Prop) (ht : TM z)  (hk : ∀ (r : Int32) (z2 : St), TM z2 → Same [0] [] z z2 → (True) → P r z2) : wp_X9_fault  z P := by
  unfold wp_X9_fault
  intro z1 ez1
  have tz1 : TM z1 := by rw [ez1]; exact Ty_wI ht trivial
  have oz1 : Same [0] [] z z1 := (Same.rf (z := z)).i (by decide) ez1
  have q_1 := (show (gI z1 41).toInt = (gI z 41).toInt by rw [ez1]; rfl)
  exact hk (gI z1 41) z1 tz1 oz1 trivial

set_option maxHeartbeats 2000000 in
theorem s_X9_go (b1 : Int32) (z : St) (P : Int32 → St → Prop) (ht : TM z)  (hk : ∀ (r : Int32) (z2 : St), TM z2 → Same [0, 1, 2, 21] [11] z z2 → ((1 ≤ b1.toInt ∧ b1.toInt ≤ 48 ∧ (gI z 2).toInt + b1.toInt ≤ 167 ∧ r.toInt = (gI z 2).toInt + b1.toInt ∧ (gI z2 2).toInt = (gI z 2).toInt + b1.toInt) ∨ ((b1.toInt < 1 ∨ 48 < b1.toInt ∨ 167 < (gI z 2).toInt + b1.toInt) ∧ r.toInt = -1 ∧ (gI z2 2).toInt = (gI z 2).toInt)) → P r z2) : wp_X9_go b1 z P := by
  unfold wp_X9_go
  intro z1 ez1
  have tz1 : TM z1 := by rw [ez1]; exact Ty_wI ht trivial
  have oz1 : Same [0, 1, 2, 21] [11] z z1 := (Same.rf (z := z)).i (by decide) ez1
  have g_1 : (Int32.toInt64 b1).toInt = b1.toInt := (a_wide rfl)
  have g_2 : (1 : Int64).toInt = 1 := by decide
  have g_3 : (48 : Int64).toInt = 48 := by decide
  refine s_X9_in (Int32.toInt64 b1) ((1 : Int64)) ((48 : Int64)) z1 _ tz1  (fun r3 hp_4 => ?_)
  rcases hp_4 with ⟨er3, hp_4⟩ | ⟨er3, hp_4⟩
  · subst er3
    intro K4 hK_5
    refine ⟨fun hc => absurd hc (by decide), fun _ => ?_⟩
    refine ⟨fun c8 => ?_, fun c8 => ?_⟩
    · skip
      have f_6 : 0 ≤ (gI z1 2).toInt ∧ (gI z1 2).toInt ≤ 167 := tz1.1 2
      have q_7 := (show (gI z1 2).toInt = (gI z 2).toInt by rw [ez1]; rfl)
      have f_8 : 0 ≤ (gI z 2).toInt ∧ (gI z 2).toInt ≤ 167 := ht.1 2
      have i_9 := i_le (a_add rfl rfl (by omega) (by omega)) (show (167 : Int32).toInt = 167 by decide) c8
      intro K10 hK_10
      have L_11 : ∀ (n : Nat) (v9 : Int32) (z11 : St), TM z11 → Same [0, 1, 2, 21] [11] z z11 → (0 ≤ v9.toInt) → (v9.toInt ≤ b1.toInt) → ((gI z11 2).toInt = (gI z 2).toInt + v9.toInt) → ((gI z 2).toInt + b1.toInt ≤ 167) → (b1.toInt ≤ 48) → (1 ≤ b1.toInt) → (b1.toInt - v9.toInt).toNat < n → K10 v9 z11 := by
        intro n
        induction n with
        | zero => intro v9 z11 tz11 ocz11 w_12 w_13 w_14 w_15 w_16 w_17 m_19; omega
        | succ n ih_18 =>
          intro v9 z11 tz11 ocz11 w_12 w_13 w_14 w_15 w_16 w_17 m_19
          have f_20 : 0 ≤ (gI z11 2).toInt ∧ (gI z11 2).toInt ≤ 167 := tz11.1 2
          refine hK_10 v9 z11 ?_
          refine ⟨fun c12 => ?_, fun c12 => ?_⟩
          · skip
            have i_21 := i_le rfl rfl c12
            intro z13 ez13
            have tz13 : TM z13 := by rw [ez13]; exact Ty_wI tz11 trivial
            have oz13 : Same [0, 1, 2, 21] [11] z z13 := ocz11.i (by decide) ez13
            have f_22 : 0 ≤ (gI z13 2).toInt ∧ (gI z13 2).toInt ≤ 167 := tz13.1 2
            have q_23 := (show (gI z13 2).toInt = (gI z11 2).toInt by rw [ez13]; rfl)
            refine s_X9_told (gI z13 2) z13 _ tz13  (fun r15 z14 tz14 o_25 hp_24 => ?_)
            have oz14 : Same [0, 1, 2, 21] [11] z z14 := oz13.tr o_25 (by decide) (by decide)
            have f_26 : 0 ≤ (gI z14 2).toInt ∧ (gI z14 2).toInt ≤ 167 := tz14.1 2
            have q_27 := ((o_25.fi 2 (by decide))).trans (show (gI z13 2).toInt = (gI z11 2).toInt by rw [ez13]; rfl)
            exact hk r15 z14 tz14 oz14 (by omega)
          · skip
            have i_28 := i_nle rfl rfl c12
            intro K17 hK_29
            have L_30 : ∀ (n : Nat) (v16 : Int32) (z18 : St), TM z18 → Same [0, 1, 2, 21] [11] z z18 → (0 ≤ v16.toInt) → (v16.toInt ≤ 16) → ((gI z18 2).toInt = (gI z11 2).toInt) → (16 - v16.toInt).toNat < n → K17 v16 z18 := by
              intro n
              induction n with
              | zero => intro v16 z18 tz18 ocz18 w_31 w_32 w_33 m_35; omega
              | succ n ih_34 =>
                intro v16 z18 tz18 ocz18 w_31 w_32 w_33 m_35
                have f_36 : 0 ≤ (gI z18 2).toInt ∧ (gI z18 2).toInt ≤ 167 := tz18.1 2
                refine hK_29 v16 z18 ?_
                refine ⟨fun c19 => ?_, fun c19 => ?_⟩
                · skip
                  have f_37 : 0 ≤ (gI z18 12).toInt ∧ (gI z18 12).toInt ≤ 16 := tz18.1 12
                  have q_38 := (ocz18.fi 12 (by decide))
                  have f_39 : 0 ≤ (gI z 12).toInt ∧ (gI z 12).toInt ≤ 16 := ht.1 12
                  have i_40 := i_le rfl rfl c19
                  intro z20 ez20
                  have tz20 : TM z20 := by rw [ez20]; exact Ty_wI tz18 (show 0 ≤ ((gI z18 2) + (1 : Int32)).toInt ∧ ((gI z18 2) + (1 : Int32)).toInt ≤ 167 from by rw [(a_add rfl (show (1 : Int32).toInt = 1 by decide) (by omega) (by omega))]; omega)
                  have oz20 : Same [0, 1, 2, 21] [11] z z20 := ocz18.i (by decide) ez20
                  intro x21 ex21
                  have ix21 : x21.toInt = (v9.toInt + (1)) := by rw [ex21]; exact (a_add rfl (show (1 : Int32).toInt = 1 by decide) (by omega) (by omega))
                  have f_41 : 0 ≤ (gI z20 2).toInt ∧ (gI z20 2).toInt ≤ 167 := tz20.1 2
                  have q_42 := (show (gI z20 2).toInt = ((gI z18 2) + (1 : Int32)).toInt by rw [ez20]; rfl)
                  have q_43 : ((gI z18 2) + (1 : Int32)).toInt = ((gI z18 2).toInt + (1)) := (a_add rfl (show (1 : Int32).toInt = 1 by decide) (by omega) (by omega))
                  exact ih_18 x21 z20 tz20 oz20 (by omega) (by omega) (by omega) (by omega) (by omega) (by omega) (by omega)
                · skip
                  have f_44 : 0 ≤ (gI z18 12).toInt ∧ (gI z18 12).toInt ≤ 16 := tz18.1 12
                  have q_45 := (ocz18.fi 12 (by decide))
                  have f_46 : 0 ≤ (gI z 12).toInt ∧ (gI z 12).toInt ≤ 16 := ht.1 12
                  have i_47 := i_nle rfl rfl c19
                  refine ⟨vin rfl (by omega) (by omega), ?_⟩
                  intro K24 hK_48
                  intro K28 hK_49
                  refine ⟨fun c29 => ?_, fun c29 => ?_⟩
                  · skip
                    have i_50 := i_ne rfl (show (1 : Int32).toInt = 1 by decide) c29
                    refine hK_49 v16 ?_
                    refine ⟨vin rfl (by omega) (by omega), ?_⟩
                    refine hK_48 ((gF z18 11 v16.toNatClampNeg)) v16 ?_
                    refine ⟨vin rfl (by omega) (by omega), ?_⟩
                    intro z_51 ez_51
                    have tz_51 : TM z_51 := by rw [ez_51]; exact Ty_wR tz18 trivial
                    have oz_51 : Same [0, 1, 2, 21] [11] z z_51 := ocz18.r (by decide) ez_51
                    intro y_52 ey_52
                    have iy_52 : y_52.toInt = (v16.toInt + (1)) := by rw [ey_52]; exact (a_add rfl (show (1 : Int32).toInt = 1 by decide) (by omega) (by omega))
                    have f_53 : 0 ≤ (gI z_51 2).toInt ∧ (gI z_51 2).toInt ≤ 167 := tz_51.1 2
                    have q_54 := (show (gI z_51 2).toInt = (gI z18 2).toInt by rw [ez_51]; rfl)
                    exact ih_34 y_52 z_51 tz_51 oz_51 (by omega) (by omega) (by omega) (by omega)
                  · skip
                    have i_55 := i_eq rfl (show (1 : Int32).toInt = 1 by decide) c29
                    refine ⟨vin rfl (by omega) (by omega), ?_⟩
                    refine ⟨fun c30 => ?_, fun c30 => ?_⟩
                    · skip
                      have q_56 := (ocz18.ff 12 v16.toNatClampNeg (by decide))
                      have i_57 := i_ne rfl rfl c30
                      refine hK_49 v16 ?_
                      refine ⟨vin rfl (by omega) (by omega), ?_⟩
                      refine hK_48 ((gF z18 11 v16.toNatClampNeg)) v16 ?_
                      refine ⟨vin rfl (by omega) (by omega), ?_⟩
                      intro z_58 ez_58
                      have tz_58 : TM z_58 := by rw [ez_58]; exact Ty_wR tz18 trivial
                      have oz_58 : Same [0, 1, 2, 21] [11] z z_58 := ocz18.r (by decide) ez_58
                      intro y_59 ey_59
                      have iy_59 : y_59.toInt = (v16.toInt + (1)) := by rw [ey_59]; exact (a_add rfl (show (1 : Int32).toInt = 1 by decide) (by omega) (by omega))
                      have f_60 : 0 ≤ (gI z_58 2).toInt ∧ (gI z_58 2).toInt ≤ 167 := tz_58.1 2
                      have q_61 := (show (gI z_58 2).toInt = (gI z18 2).toInt by rw [ez_58]; rfl)
                      exact ih_34 y_59 z_58 tz_58 oz_58 (by omega) (by omega) (by omega) (by omega)
                    · skip
                      have q_62 := (ocz18.ff 12 v16.toNatClampNeg (by decide))
                      have i_63 := i_eq rfl rfl c30
                      refine hK_48 ((2 : Int32)) v16 ?_
                      refine ⟨vin rfl (by omega) (by omega), ?_⟩
                      intro z_64 ez_64
                      have tz_64 : TM z_64 := by rw [ez_64]; exact Ty_wR tz18 trivial
                      have oz_64 : Same [0, 1, 2, 21] [11] z z_64 := ocz18.r (by decide) ez_64
                      intro y_65 ey_65
                      have iy_65 : y_65.toInt = (v16.toInt + (1)) := by rw [ey_65]; exact (a_add rfl (show (1 : Int32).toInt = 1 by decide) (by omega) (by omega))
                      have f_66 : 0 ≤ (gI z_64 2).toInt ∧ (gI z_64 2).toInt ≤ 167 := tz_64.1 2
                      have q_67 := (show (gI z_64 2).toInt = (gI z18 2).toInt by rw [ez_64]; rfl)
                      exact ih_34 y_65 z_64 tz_64 oz_64 (by omega) (by omega) (by omega) (by omega)
            have g_68 : (0 : Int32).toInt = 0 := by decide
            exact L_30 ((16 - (0 : Int32).toInt).toNat + 1) ((0 : Int32)) z11 tz11 ocz11 (by omega) (by omega) (by omega) (by omega)
      have g_69 : (0 : Int32).toInt = 0 := by decide
      exact L_11 ((b1.toInt - (0 : Int32).toInt).toNat + 1) ((0 : Int32)) z1 tz1 oz1 (by omega) (by omega) (by omega) (by omega) (by omega) (by omega) (by omega)
    · skip
      have f_70 : 0 ≤ (gI z1 2).toInt ∧ (gI z1 2).toInt ≤ 167 := tz1.1 2
      have q_71 := (show (gI z1 2).toInt = (gI z 2).toInt by rw [ez1]; rfl)
      have f_72 : 0 ≤ (gI z 2).toInt ∧ (gI z 2).toInt ≤ 167 := ht.1 2
      have i_73 := i_nle (a_add rfl rfl (by omega) (by omega)) (show (167 : Int32).toInt = 167 by decide) c8
      refine hK_5  ?_
      have g_76 : (-1 : Int32).toInt = -1 := by decide
      refine s_X9_told ((-1 : Int32)) z1 _ tz1  (fun r_74 z_75 tz_75 o_78 hp_77 => ?_)
      have oz_75 : Same [0, 1, 2, 21] [11] z z_75 := oz1.tr o_78 (by decide) (by decide)
      have f_79 : 0 ≤ (gI z_75 2).toInt ∧ (gI z_75 2).toInt ≤ 167 := tz_75.1 2
      have q_80 := ((o_78.fi 2 (by decide))).trans (show (gI z1 2).toInt = (gI z 2).toInt by rw [ez1]; rfl)
      exact hk r_74 z_75 tz_75 oz_75 (by omega)
  · subst er3
    intro K4 hK_81
    refine ⟨fun _ => ?_, fun hc => absurd (show ((0 : Int32)) = ((0 : Int32)) by decide) hc⟩
    refine hK_81  ?_
    have g_84 : (-1 : Int32).toInt = -1 := by decide
    refine s_X9_told ((-1 : Int32)) z1 _ tz1  (fun r_82 z_83 tz_83 o_86 hp_85 => ?_)
    have oz_83 : Same [0, 1, 2, 21] [11] z z_83 := oz1.tr o_86 (by decide) (by decide)
    have f_87 : 0 ≤ (gI z 2).toInt ∧ (gI z 2).toInt ≤ 167 := ht.1 2
    have f_88 : 0 ≤ (gI z_83 2).toInt ∧ (gI z_83 2).toInt ≤ 167 := tz_83.1 2
    have q_89 := ((o_86.fi 2 (by decide))).trans (show (gI z1 2).toInt = (gI z 2).toInt by rw [ez1]; rfl)
    exact hk r_82 z_83 tz_83 oz_83 (by omega)

set_option maxHeartbeats 2000000 in
theorem s_X9_load (b1 : Int32) (b2 : Int32) (z : St) (P : Int32 → St → Prop) (ht : TM z)  (hk : ∀ (r : Int32) (z2 : St), TM z2 → Same [0] [] z z2 → (True) → P r z2) : wp_X9_load b1 b2 z P := by
  unfold wp_X9_load
  intro z1 ez1
  have tz1 : TM z1 := by rw [ez1]; exact Ty_wI ht trivial
  have oz1 : Same [0] [] z z1 := (Same.rf (z := z)).i (by decide) ez1
  refine s_X9_isHome b1 z1 _ tz1  (fun r3 hp_1 => ?_)
  rcases hp_1 with ⟨er3, hp_1⟩ | ⟨er3, hp_1⟩
  · subst er3
    have f_2 : 0 ≤ (gI z1 8).toInt ∧ (gI z1 8).toInt ≤ 4 := tz1.1 8
    have q_3 := (show (gI z1 8).toInt = (gI z 8).toInt by rw [ez1]; rfl)
    have f_4 : 0 ≤ (gI z 8).toInt ∧ (gI z 8).toInt ≤ 4 := ht.1 8
    refine ⟨fun hc => absurd hc (by decide), fun _ => ?_⟩
    refine s_X9_isHour b2 z1 _ tz1  (fun r6 hp_5 => ?_)
    rcases hp_5 with ⟨er6, hp_5⟩ | ⟨er6, hp_5⟩
    · subst er6
      refine ⟨fun hc => absurd hc (by decide), fun _ => ?_⟩
      have g_6 : (-1 : Int32).toInt = -1 := by decide
      refine s_X9_loadOf b1 b2 ((-1 : Int32)) z1 _ tz1 (by omega) (by omega) (fun r9 hp_7 => ?_)
      exact hk r9 z1 tz1 oz1 trivial
    · subst er6
      refine ⟨fun _ => ?_, fun hc => absurd (show ((0 : Int32)) = ((0 : Int32)) by decide) hc⟩
      have g_8 : (-1 : Int32).toInt = -1 := by decide
      exact hk ((-1 : Int32)) z1 tz1 oz1 trivial
  · subst er3
    have f_9 : 0 ≤ (gI z1 8).toInt ∧ (gI z1 8).toInt ≤ 4 := tz1.1 8
    have q_10 := (show (gI z1 8).toInt = (gI z 8).toInt by rw [ez1]; rfl)
    have f_11 : 0 ≤ (gI z 8).toInt ∧ (gI z 8).toInt ≤ 4 := ht.1 8
    refine ⟨fun _ => ?_, fun hc => absurd (show ((0 : Int32)) = ((0 : Int32)) by decide) hc⟩
    have g_12 : (-1 : Int32).toInt = -1 := by decide
    exact hk ((-1 : Int32)) z1 tz1 oz1 trivial

set_option maxHeartbeats 2000000 in
theorem s_X9_cost (b1 : Int32) (b2 : Int32) (z : St) (P : Int64 → St → Prop) (ht : TM z)  (hk : ∀ (r : Int64) (z2 : St), TM z2 → Same [0] [] z z2 → (True) → P r z2) : wp_X9_cost b1 b2 z P := by
  unfold wp_X9_cost
  intro z1 ez1
  have tz1 : TM z1 := by rw [ez1]; exact Ty_wI ht trivial
  have oz1 : Same [0] [] z z1 := (Same.rf (z := z)).i (by decide) ez1
  refine s_X9_isJob b1 z1 _ tz1  (fun r3 hp_1 => ?_)
  rcases hp_1 with ⟨er3, hp_1⟩ | ⟨er3, hp_1⟩
  · subst er3
    have f_2 : 0 ≤ (gI z1 12).toInt ∧ (gI z1 12).toInt ≤ 16 := tz1.1 12
    have q_3 := (show (gI z1 12).toInt = (gI z 12).toInt by rw [ez1]; rfl)
    have f_4 : 0 ≤ (gI z 12).toInt ∧ (gI z 12).toInt ≤ 16 := ht.1 12
    refine ⟨fun hc => absurd hc (by decide), fun _ => ?_⟩
    refine ⟨vin rfl (by omega) (by omega), ?_⟩
    refine ⟨fun c5 => ?_, fun c5 => ?_⟩
    · skip
      have q_5 := (show (gF z1 11 b1.toNatClampNeg).toInt = (gF z 11 b1.toNatClampNeg).toInt by rw [ez1]; rfl)
      have i_6 := i_eq rfl (show (0 : Int32).toInt = 0 by decide) c5
      exact hk ((0 : Int64)) z1 tz1 oz1 trivial
    · skip
      have q_7 := (show (gF z1 11 b1.toNatClampNeg).toInt = (gF z 11 b1.toNatClampNeg).toInt by rw [ez1]; rfl)
      have i_8 := i_ne rfl (show (0 : Int32).toInt = 0 by decide) c5
      refine s_X9_isKnown b2 z1 _ tz1  (fun r7 hp_9 => ?_)
      rcases hp_9 with ⟨er7, hp_9⟩ | ⟨er7, hp_9⟩
      · subst er7
        refine ⟨fun hc => absurd hc (by decide), fun _ => ?_⟩
        refine ⟨vin rfl (by omega) (by omega), ?_⟩
        have q_10 := (show (gF z1 12 b1.toNatClampNeg).toInt = (gF z 12 b1.toNatClampNeg).toInt by rw [ez1]; rfl)
        refine s_X9_costAt b1 (gF z1 12 b1.toNatClampNeg) b2 z1 _ tz1 (by omega) (fun r10 hp_11 => ?_)
        exact hk r10 z1 tz1 oz1 trivial
      · subst er7
        refine ⟨fun _ => ?_, fun hc => absurd (show ((0 : Int32)) = ((0 : Int32)) by decide) hc⟩
        exact hk ((0 : Int64)) z1 tz1 oz1 trivial
  · subst er3
    have f_12 : 0 ≤ (gI z1 12).toInt ∧ (gI z1 12).toInt ≤ 16 := tz1.1 12
    have q_13 := (show (gI z1 12).toInt = (gI z 12).toInt by rw [ez1]; rfl)
    have f_14 : 0 ≤ (gI z 12).toInt ∧ (gI z 12).toInt ≤ 16 := ht.1 12
    refine ⟨fun _ => ?_, fun hc => absurd (show ((0 : Int32)) = ((0 : Int32)) by decide) hc⟩
    exact hk ((0 : Int64)) z1 tz1 oz1 trivial

set_option maxHeartbeats 2000000 in
theorem s_X9_saved (b1 : Int32) (z : St) (P : Int64 → St → Prop) (ht : TM z)  (hk : ∀ (r : Int64) (z2 : St), TM z2 → Same [0] [] z z2 → (True) → P r z2) : wp_X9_saved b1 z P := by
  unfold wp_X9_saved
  intro z1 ez1
  have tz1 : TM z1 := by rw [ez1]; exact Ty_wI ht trivial
  have oz1 : Same [0] [] z z1 := (Same.rf (z := z)).i (by decide) ez1
  intro K4 hK_1
  have L_2 : ∀ (n : Nat) (v2 : Int64) (v3 : Int32), (0 ≤ v3.toInt) → (v3.toInt ≤ 16) → (16 - v3.toInt).toNat < n → K4 v2 v3 := by
    intro n
    induction n with
    | zero => intro v2 v3 w_3 w_4 m_6; omega
    | succ n ih_5 =>
      intro v2 v3 w_3 w_4 m_6
      refine hK_1 v2 v3 ?_
      refine ⟨fun c5 => ?_, fun c5 => ?_⟩
      · skip
        have f_7 : 0 ≤ (gI z1 12).toInt ∧ (gI z1 12).toInt ≤ 16 := tz1.1 12
        have q_8 := (show (gI z1 12).toInt = (gI z 12).toInt by rw [ez1]; rfl)
        have f_9 : 0 ≤ (gI z 12).toInt ∧ (gI z 12).toInt ≤ 16 := ht.1 12
        have i_10 := i_le rfl rfl c5
        exact hk v2 z1 tz1 oz1 trivial
      · skip
        have f_11 : 0 ≤ (gI z1 12).toInt ∧ (gI z1 12).toInt ≤ 16 := tz1.1 12
        have q_12 := (show (gI z1 12).toInt = (gI z 12).toInt by rw [ez1]; rfl)
        have f_13 : 0 ≤ (gI z 12).toInt ∧ (gI z 12).toInt ≤ 16 := ht.1 12
        have i_14 := i_nle rfl rfl c5
        refine s_X9_isKnown b1 z1 _ tz1  (fun r7 hp_15 => ?_)
        rcases hp_15 with ⟨er7, hp_15⟩ | ⟨er7, hp_15⟩
        · subst er7
          refine ⟨fun hc => absurd hc (by decide), fun _ => ?_⟩
          refine ⟨vin rfl (by omega) (by omega), ?_⟩
          intro K11 hK_16
          refine ⟨fun c14 => ?_, fun c14 => ?_⟩
          · skip
            have q_17 := (show (gF z1 11 v3.toNatClampNeg).toInt = (gF z 11 v3.toNatClampNeg).toInt by rw [ez1]; rfl)
            have i_18 := i_ne rfl (show (2 : Int32).toInt = 2 by decide) c14
            refine hK_16 ((0 : Int64)) v2 ?_
            intro y_19 ey_19
            intro y_20 ey_20
            have iy_20 : y_20.toInt = (v3.toInt + (1)) := by rw [ey_20]; exact (a_add rfl (show (1 : Int32).toInt = 1 by decide) (by omega) (by omega))
            exact ih_5 y_19 y_20 (by omega) (by omega) (by omega)
          · skip
            have q_21 := (show (gF z1 11 v3.toNatClampNeg).toInt = (gF z 11 v3.toNatClampNeg).toInt by rw [ez1]; rfl)
            have i_22 := i_eq rfl (show (2 : Int32).toInt = 2 by decide) c14
            refine ⟨vin rfl (by omega) (by omega), ?_⟩
            have f_23 : 0 ≤ (gF z1 7 v3.toNatClampNeg).toInt ∧ (gF z1 7 v3.toNatClampNeg).toInt ≤ 167 := tz1.2 7 _
            have q_24 := (show (gF z1 7 v3.toNatClampNeg).toInt = (gF z 7 v3.toNatClampNeg).toInt by rw [ez1]; rfl)
            have f_25 : 0 ≤ (gF z 7 v3.toNatClampNeg).toInt ∧ (gF z 7 v3.toNatClampNeg).toInt ≤ 167 := ht.2 7 _
            refine s_X9_costAt v3 (gF z1 7 v3.toNatClampNeg) b1 z1 _ tz1 (by omega) (fun r16 hp_26 => ?_)
            refine ⟨vin rfl (by omega) (by omega), ?_⟩
            have q_27 := (show (gF z1 12 v3.toNatClampNeg).toInt = (gF z 12 v3.toNatClampNeg).toInt by rw [ez1]; rfl)
            refine s_X9_costAt v3 (gF z1 12 v3.toNatClampNeg) b1 z1 _ tz1 (by omega) (fun r18 hp_28 => ?_)
            refine hK_16 ((r16 - r18)) v2 ?_
            intro y_29 ey_29
            intro y_30 ey_30
            have iy_30 : y_30.toInt = (v3.toInt + (1)) := by rw [ey_30]; exact (a_add rfl (show (1 : Int32).toInt = 1 by decide) (by omega) (by omega))
            exact ih_5 y_29 y_30 (by omega) (by omega) (by omega)
        · subst er7
          refine ⟨fun _ => ?_, fun hc => absurd (show ((0 : Int32)) = ((0 : Int32)) by decide) hc⟩
          exact hk v2 z1 tz1 oz1 trivial
  have g_31 : (0 : Int32).toInt = 0 := by decide
  exact L_2 ((16 - (0 : Int32).toInt).toNat + 1) ((0 : Int64)) ((0 : Int32)) (by omega) (by omega) (by omega)

set_option maxHeartbeats 2000000 in
theorem s_X9_store (b1 : Int32) (b2 : Int32) (b3 : Int32) (b4 : Int32) (b5 : Int32) (b6 : Int32) (b7 : Int32) (z : St) (P : Int32 → St → Prop) (ht : TM z)  (hk : ∀ (r : Int32) (z2 : St), TM z2 → Same [0, 1, 43] [26, 27, 28, 29, 30, 31, 32] z z2 → (True) → P r z2) : wp_X9_store b1 b2 b3 b4 b5 b6 b7 z P := by
  unfold wp_X9_store
  intro z1 ez1
  have tz1 : TM z1 := by rw [ez1]; exact Ty_wI ht trivial
  have oz1 : Same [0, 1, 43] [26, 27, 28, 29, 30, 31, 32] z z1 := (Same.rf (z := z)).i (by decide) ez1
  have g_1 : (Int32.toInt64 b2).toInt = b2.toInt := (a_wide rfl)
  have g_2 : (1 : Int64).toInt = 1 := by decide
  have g_3 : (40 : Int64).toInt = 40 := by decide
  refine s_X9_in (Int32.toInt64 b2) ((1 : Int64)) ((40 : Int64)) z1 _ tz1  (fun r3 hp_4 => ?_)
  rcases hp_4 with ⟨er3, hp_4⟩ | ⟨er3, hp_4⟩
  · subst er3
    intro K4 hK_5
    refine ⟨fun hc => absurd hc (by decide), fun _ => ?_⟩
    have g_6 : (Int32.toInt64 b3).toInt = b3.toInt := (a_wide rfl)
    have g_7 : (0 : Int64).toInt = 0 := by decide
    have g_8 : (Int32.toInt64 b2).toInt = b2.toInt := (a_wide rfl)
    refine s_X9_in (Int32.toInt64 b3) ((0 : Int64)) (Int32.toInt64 b2) z1 _ tz1  (fun r9 hp_9 => ?_)
    rcases hp_9 with ⟨er9, hp_9⟩ | ⟨er9, hp_9⟩
    · subst er9
      refine ⟨fun hc => absurd hc (by decide), fun _ => ?_⟩
      have g_10 : (Int32.toInt64 b4).toInt = b4.toInt := (a_wide rfl)
      have g_11 : (0 : Int64).toInt = 0 := by decide
      have g_12 : (10 : Int64).toInt = 10 := by decide
      refine s_X9_in (Int32.toInt64 b4) ((0 : Int64)) ((10 : Int64)) z1 _ tz1  (fun r12 hp_13 => ?_)
      rcases hp_13 with ⟨er12, hp_13⟩ | ⟨er12, hp_13⟩
      · subst er12
        refine ⟨fun hc => absurd hc (by decide), fun _ => ?_⟩
        have g_14 : (Int32.toInt64 b5).toInt = b5.toInt := (a_wide rfl)
        have g_15 : (0 : Int64).toInt = 0 := by decide
        have g_16 : (10 : Int64).toInt = 10 := by decide
        refine s_X9_in (Int32.toInt64 b5) ((0 : Int64)) ((10 : Int64)) z1 _ tz1  (fun r15 hp_17 => ?_)
        rcases hp_17 with ⟨er15, hp_17⟩ | ⟨er15, hp_17⟩
        · subst er15
          refine ⟨fun hc => absurd hc (by decide), fun _ => ?_⟩
          have g_18 : (Int32.toInt64 b6).toInt = b6.toInt := (a_wide rfl)
          have g_19 : (0 : Int64).toInt = 0 := by decide
          have g_20 : (3 : Int64).toInt = 3 := by decide
          refine s_X9_in (Int32.toInt64 b6) ((0 : Int64)) ((3 : Int64)) z1 _ tz1  (fun r18 hp_21 => ?_)
          rcases hp_21 with ⟨er18, hp_21⟩ | ⟨er18, hp_21⟩
          · subst er18
            refine ⟨fun hc => absurd hc (by decide), fun _ => ?_⟩
            have g_22 : (Int32.toInt64 b7).toInt = b7.toInt := (a_wide rfl)
            have g_23 : (1 : Int64).toInt = 1 := by decide
            have g_24 : (1000 : Int64).toInt = 1000 := by decide
            refine s_X9_in (Int32.toInt64 b7) ((1 : Int64)) ((1000 : Int64)) z1 _ tz1  (fun r21 hp_25 => ?_)
            rcases hp_25 with ⟨er21, hp_25⟩ | ⟨er21, hp_25⟩
            · subst er21
              refine ⟨fun _ => ?_, fun hc => absurd hc (by decide)⟩
              refine s_X9_isHome b1 z1 _ tz1  (fun r24 hp_26 => ?_)
              rcases hp_26 with ⟨er24, hp_26⟩ | ⟨er24, hp_26⟩
              · subst er24
                have f_27 : 0 ≤ (gI z1 8).toInt ∧ (gI z1 8).toInt ≤ 4 := tz1.1 8
                have q_28 := (show (gI z1 8).toInt = (gI z 8).toInt by rw [ez1]; rfl)
                have f_29 : 0 ≤ (gI z 8).toInt ∧ (gI z 8).toInt ≤ 4 := ht.1 8
                refine ⟨fun _ => ?_, fun hc => absurd hc (by decide)⟩
                refine ⟨fun c26 => ?_, fun c26 => ?_⟩
                · skip
                  have f_30 : 0 ≤ (gI z1 43).toInt ∧ (gI z1 43).toInt ≤ 6 := tz1.1 43
                  have q_31 := (show (gI z1 43).toInt = (gI z 43).toInt by rw [ez1]; rfl)
                  have f_32 : 0 ≤ (gI z 43).toInt ∧ (gI z 43).toInt ≤ 6 := ht.1 43
                  have i_33 := i_ne rfl (show (6 : Int32).toInt = 6 by decide) c26
                  refine ⟨vin rfl (by omega) (by omega), ?_⟩
                  intro z27 ez27
                  have tz27 : TM z27 := by rw [ez27]; exact Ty_wR tz1 (show 0 ≤ b1.toInt ∧ b1.toInt ≤ 3 from by omega)
                  have oz27 : Same [0, 1, 43] [26, 27, 28, 29, 30, 31, 32] z z27 := oz1.r (by decide) ez27
                  have f_34 : 0 ≤ (gI z27 43).toInt ∧ (gI z27 43).toInt ≤ 6 := tz27.1 43
                  have q_35 := ((show (gI z27 43).toInt = (gI z1 43).toInt by rw [ez27]; rfl)).trans (show (gI z1 43).toInt = (gI z 43).toInt by rw [ez1]; rfl)
                  refine ⟨vin rfl (by omega) (by omega), ?_⟩
                  intro z28 ez28
                  have tz28 : TM z28 := by rw [ez28]; exact Ty_wR tz27 (show 0 ≤ b2.toInt ∧ b2.toInt ≤ 40 from by omega)
                  have oz28 : Same [0, 1, 43] [26, 27, 28, 29, 30, 31, 32] z z28 := oz27.r (by decide) ez28
                  have f_36 : 0 ≤ (gI z28 43).toInt ∧ (gI z28 43).toInt ≤ 6 := tz28.1 43
                  have q_37 := (((show (gI z28 43).toInt = (gI z27 43).toInt by rw [ez28]; rfl)).trans (show (gI z27 43).toInt = (gI z1 43).toInt by rw [ez27]; rfl)).trans (show (gI z1 43).toInt = (gI z 43).toInt by rw [ez1]; rfl)
                  refine ⟨vin rfl (by omega) (by omega), ?_⟩
                  intro z29 ez29
                  have tz29 : TM z29 := by rw [ez29]; exact Ty_wR tz28 (show 0 ≤ b3.toInt ∧ b3.toInt ≤ 40 from by omega)
                  have oz29 : Same [0, 1, 43] [26, 27, 28, 29, 30, 31, 32] z z29 := oz28.r (by decide) ez29
                  have f_38 : 0 ≤ (gI z29 43).toInt ∧ (gI z29 43).toInt ≤ 6 := tz29.1 43
                  have q_39 := ((((show (gI z29 43).toInt = (gI z28 43).toInt by rw [ez29]; rfl)).trans (show (gI z28 43).toInt = (gI z27 43).toInt by rw [ez28]; rfl)).trans (show (gI z27 43).toInt = (gI z1 43).toInt by rw [ez27]; rfl)).trans (show (gI z1 43).toInt = (gI z 43).toInt by rw [ez1]; rfl)
                  refine ⟨vin rfl (by omega) (by omega), ?_⟩
                  intro z30 ez30
                  have tz30 : TM z30 := by rw [ez30]; exact Ty_wR tz29 (show 0 ≤ b4.toInt ∧ b4.toInt ≤ 10 from by omega)
                  have oz30 : Same [0, 1, 43] [26, 27, 28, 29, 30, 31, 32] z z30 := oz29.r (by decide) ez30
                  have f_40 : 0 ≤ (gI z30 43).toInt ∧ (gI z30 43).toInt ≤ 6 := tz30.1 43
                  have q_41 := (((((show (gI z30 43).toInt = (gI z29 43).toInt by rw [ez30]; rfl)).trans (show (gI z29 43).toInt = (gI z28 43).toInt by rw [ez29]; rfl)).trans (show (gI z28 43).toInt = (gI z27 43).toInt by rw [ez28]; rfl)).trans (show (gI z27 43).toInt = (gI z1 43).toInt by rw [ez27]; rfl)).trans (show (gI z1 43).toInt = (gI z 43).toInt by rw [ez1]; rfl)
                  refine ⟨vin rfl (by omega) (by omega), ?_⟩
                  intro z31 ez31
                  have tz31 : TM z31 := by rw [ez31]; exact Ty_wR tz30 (show 0 ≤ b5.toInt ∧ b5.toInt ≤ 10 from by omega)
                  have oz31 : Same [0, 1, 43] [26, 27, 28, 29, 30, 31, 32] z z31 := oz30.r (by decide) ez31
                  have f_42 : 0 ≤ (gI z31 43).toInt ∧ (gI z31 43).toInt ≤ 6 := tz31.1 43
                  have q_43 := ((((((show (gI z31 43).toInt = (gI z30 43).toInt by rw [ez31]; rfl)).trans (show (gI z30 43).toInt = (gI z29 43).toInt by rw [ez30]; rfl)).trans (show (gI z29 43).toInt = (gI z28 43).toInt by rw [ez29]; rfl)).trans (show (gI z28 43).toInt = (gI z27 43).toInt by rw [ez28]; rfl)).trans (show (gI z27 43).toInt = (gI z1 43).toInt by rw [ez27]; rfl)).trans (show (gI z1 43).toInt = (gI z 43).toInt by rw [ez1]; rfl)
                  refine ⟨vin rfl (by omega) (by omega), ?_⟩
                  intro z32 ez32
                  have tz32 : TM z32 := by rw [ez32]; exact Ty_wR tz31 (show 0 ≤ b6.toInt ∧ b6.toInt ≤ 3 from by omega)
                  have oz32 : Same [0, 1, 43] [26, 27, 28, 29, 30, 31, 32] z z32 := oz31.r (by decide) ez32
                  have f_44 : 0 ≤ (gI z32 43).toInt ∧ (gI z32 43).toInt ≤ 6 := tz32.1 43
                  have q_45 := (((((((show (gI z32 43).toInt = (gI z31 43).toInt by rw [ez32]; rfl)).trans (show (gI z31 43).toInt = (gI z30 43).toInt by rw [ez31]; rfl)).trans (show (gI z30 43).toInt = (gI z29 43).toInt by rw [ez30]; rfl)).trans (show (gI z29 43).toInt = (gI z28 43).toInt by rw [ez29]; rfl)).trans (show (gI z28 43).toInt = (gI z27 43).toInt by rw [ez28]; rfl)).trans (show (gI z27 43).toInt = (gI z1 43).toInt by rw [ez27]; rfl)).trans (show (gI z1 43).toInt = (gI z 43).toInt by rw [ez1]; rfl)
                  refine ⟨vin rfl (by omega) (by omega), ?_⟩
                  intro z33 ez33
                  have tz33 : TM z33 := by rw [ez33]; exact Ty_wR tz32 trivial
                  have oz33 : Same [0, 1, 43] [26, 27, 28, 29, 30, 31, 32] z z33 := oz32.r (by decide) ez33
                  intro z34 ez34
                  have f_46 : 0 ≤ (gI z33 43).toInt ∧ (gI z33 43).toInt ≤ 6 := tz33.1 43
                  have q_47 := ((((((((show (gI z33 43).toInt = (gI z32 43).toInt by rw [ez33]; rfl)).trans (show (gI z32 43).toInt = (gI z31 43).toInt by rw [ez32]; rfl)).trans (show (gI z31 43).toInt = (gI z30 43).toInt by rw [ez31]; rfl)).trans (show (gI z30 43).toInt = (gI z29 43).toInt by rw [ez30]; rfl)).trans (show (gI z29 43).toInt = (gI z28 43).toInt by rw [ez29]; rfl)).trans (show (gI z28 43).toInt = (gI z27 43).toInt by rw [ez28]; rfl)).trans (show (gI z27 43).toInt = (gI z1 43).toInt by rw [ez27]; rfl)).trans (show (gI z1 43).toInt = (gI z 43).toInt by rw [ez1]; rfl)
                  have tz34 : TM z34 := by rw [ez34]; exact Ty_wI tz33 (show 0 ≤ ((gI z33 43) + (1 : Int32)).toInt ∧ ((gI z33 43) + (1 : Int32)).toInt ≤ 6 from by rw [(a_add rfl (show (1 : Int32).toInt = 1 by decide) (by omega) (by omega))]; omega)
                  have oz34 : Same [0, 1, 43] [26, 27, 28, 29, 30, 31, 32] z z34 := oz33.i (by decide) ez34
                  have f_48 : 0 ≤ (gI z34 43).toInt ∧ (gI z34 43).toInt ≤ 6 := tz34.1 43
                  have q_49 := (show (gI z34 43).toInt = ((gI z33 43) + (1 : Int32)).toInt by rw [ez34]; rfl)
                  have q_50 : ((gI z33 43) + (1 : Int32)).toInt = ((gI z33 43).toInt + (1)) := (a_add rfl (show (1 : Int32).toInt = 1 by decide) (by omega) (by omega))
                  have g_51 : ((gI z34 43) - (1 : Int32)).toInt = ((gI z34 43).toInt - (1)) := (a_sub rfl (show (1 : Int32).toInt = 1 by decide) (by omega) (by omega))
                  refine s_X9_told ((gI z34 43) - ((1 : Int32))) z34 _ tz34  (fun r36 z35 tz35 o_53 hp_52 => ?_)
                  have oz35 : Same [0, 1, 43] [26, 27, 28, 29, 30, 31, 32] z z35 := oz34.tr o_53 (by decide) (by decide)
                  exact hk r36 z35 tz35 oz35 trivial
                · skip
                  have f_54 : 0 ≤ (gI z1 43).toInt ∧ (gI z1 43).toInt ≤ 6 := tz1.1 43
                  have q_55 := (show (gI z1 43).toInt = (gI z 43).toInt by rw [ez1]; rfl)
                  have f_56 : 0 ≤ (gI z 43).toInt ∧ (gI z 43).toInt ≤ 6 := ht.1 43
                  have i_57 := i_eq rfl (show (6 : Int32).toInt = 6 by decide) c26
                  have g_58 : (-5 : Int32).toInt = -5 := by decide
                  refine s_X9_told ((-5 : Int32)) z1 _ tz1  (fun r38 z37 tz37 o_60 hp_59 => ?_)
                  have oz37 : Same [0, 1, 43] [26, 27, 28, 29, 30, 31, 32] z z37 := oz1.tr o_60 (by decide) (by decide)
                  exact hk r38 z37 tz37 oz37 trivial
              · subst er24
                have f_61 : 0 ≤ (gI z1 8).toInt ∧ (gI z1 8).toInt ≤ 4 := tz1.1 8
                have q_62 := (show (gI z1 8).toInt = (gI z 8).toInt by rw [ez1]; rfl)
                have f_63 : 0 ≤ (gI z 8).toInt ∧ (gI z 8).toInt ≤ 4 := ht.1 8
                refine ⟨fun hc => absurd hc (by decide), fun _ => ?_⟩
                have g_64 : (-2 : Int32).toInt = -2 := by decide
                refine s_X9_told ((-2 : Int32)) z1 _ tz1  (fun r40 z39 tz39 o_66 hp_65 => ?_)
                have oz39 : Same [0, 1, 43] [26, 27, 28, 29, 30, 31, 32] z z39 := oz1.tr o_66 (by decide) (by decide)
                exact hk r40 z39 tz39 oz39 trivial
            · subst er21
              refine ⟨fun hc => absurd hc (by decide), fun _ => ?_⟩
              refine hK_5  ?_
              have g_69 : (-1 : Int32).toInt = -1 := by decide
              refine s_X9_told ((-1 : Int32)) z1 _ tz1  (fun r_67 z_68 tz_68 o_71 hp_70 => ?_)
              have oz_68 : Same [0, 1, 43] [26, 27, 28, 29, 30, 31, 32] z z_68 := oz1.tr o_71 (by decide) (by decide)
              exact hk r_67 z_68 tz_68 oz_68 trivial
          · subst er18
            refine ⟨fun _ => ?_, fun hc => absurd (show ((0 : Int32)) = ((0 : Int32)) by decide) hc⟩
            refine hK_5  ?_
            have g_74 : (-1 : Int32).toInt = -1 := by decide
            refine s_X9_told ((-1 : Int32)) z1 _ tz1  (fun r_72 z_73 tz_73 o_76 hp_75 => ?_)
            have oz_73 : Same [0, 1, 43] [26, 27, 28, 29, 30, 31, 32] z z_73 := oz1.tr o_76 (by decide) (by decide)
            exact hk r_72 z_73 tz_73 oz_73 trivial
        · subst er15
          refine ⟨fun _ => ?_, fun hc => absurd (show ((0 : Int32)) = ((0 : Int32)) by decide) hc⟩
          refine hK_5  ?_
          have g_79 : (-1 : Int32).toInt = -1 := by decide
          refine s_X9_told ((-1 : Int32)) z1 _ tz1  (fun r_77 z_78 tz_78 o_81 hp_80 => ?_)
          have oz_78 : Same [0, 1, 43] [26, 27, 28, 29, 30, 31, 32] z z_78 := oz1.tr o_81 (by decide) (by decide)
          exact hk r_77 z_78 tz_78 oz_78 trivial
      · subst er12
        refine ⟨fun _ => ?_, fun hc => absurd (show ((0 : Int32)) = ((0 : Int32)) by decide) hc⟩
        refine hK_5  ?_
        have g_84 : (-1 : Int32).toInt = -1 := by decide
        refine s_X9_told ((-1 : Int32)) z1 _ tz1  (fun r_82 z_83 tz_83 o_86 hp_85 => ?_)
        have oz_83 : Same [0, 1, 43] [26, 27, 28, 29, 30, 31, 32] z z_83 := oz1.tr o_86 (by decide) (by decide)
        exact hk r_82 z_83 tz_83 oz_83 trivial
    · subst er9
      refine ⟨fun _ => ?_, fun hc => absurd (show ((0 : Int32)) = ((0 : Int32)) by decide) hc⟩
      refine hK_5  ?_
      have g_89 : (-1 : Int32).toInt = -1 := by decide
      refine s_X9_told ((-1 : Int32)) z1 _ tz1  (fun r_87 z_88 tz_88 o_91 hp_90 => ?_)
      have oz_88 : Same [0, 1, 43] [26, 27, 28, 29, 30, 31, 32] z z_88 := oz1.tr o_91 (by decide) (by decide)
      exact hk r_87 z_88 tz_88 oz_88 trivial
  · subst er3
    intro K4 hK_92
    refine ⟨fun _ => ?_, fun hc => absurd (show ((0 : Int32)) = ((0 : Int32)) by decide) hc⟩
    refine hK_92  ?_
    have g_95 : (-1 : Int32).toInt = -1 := by decide
    refine s_X9_told ((-1 : Int32)) z1 _ tz1  (fun r_93 z_94 tz_94 o_97 hp_96 => ?_)
    have oz_94 : Same [0, 1, 43] [26, 27, 28, 29, 30, 31, 32] z z_94 := oz1.tr o_97 (by decide) (by decide)
    exact hk r_93 z_94 tz_94 oz_94 trivial

set_option maxHeartbeats 2000000 in
theorem s_X9_isStore (b1 : Int32) (z : St) (P : Int32 → Prop) (ht : TM z)  (hk : ∀ r : Int32, (r = 1 ∧ (0 ≤ b1.toInt ∧ b1.toInt < (gI z 43).toInt)) ∨ (r = 0 ∧ (b1.toInt < 0 ∨ (gI z 43).toInt ≤ b1.toInt)) → P r) : wp_X9_isStore b1 z P := by
  unfold wp_X9_isStore
  have g_1 : (Int32.toInt64 b1).toInt = b1.toInt := (a_wide rfl)
  have g_2 : (0 : Int64).toInt = 0 := by decide
  have f_3 : 0 ≤ (gI z 43).toInt ∧ (gI z 43).toInt ≤ 6 := ht.1 43
  have g_4 : ((Int32.toInt64 (gI z 43)) - (1 : Int64)).toInt = ((gI z 43).toInt - (1)) := (a_subL (a_wide rfl) (show (1 : Int64).toInt = 1 by decide) (by omega) (by omega))
  refine s_X9_in (Int32.toInt64 b1) ((0 : Int64)) ((Int32.toInt64 (gI z 43)) - ((1 : Int64))) z _ ht  (fun r2 hp_5 => ?_)
  rcases hp_5 with ⟨er2, hp_5⟩ | ⟨er2, hp_5⟩
  · subst er2
    have g_6 : (1 : Int32).toInt = 1 := by decide
    refine ⟨Or.inr rfl, ?_⟩
    exact hk ((1 : Int32)) (Or.inl ⟨rfl, (by omega)⟩)
  · subst er2
    have g_7 : (0 : Int32).toInt = 0 := by decide
    refine ⟨Or.inl rfl, ?_⟩
    exact hk ((0 : Int32)) (Or.inr ⟨rfl, (by omega)⟩)

set_option maxHeartbeats 2000000 in
theorem s_X9_level (b1 : Int32) (b2 : Int32) (z : St) (P : Int32 → St → Prop) (ht : TM z)  (hk : ∀ (r : Int32) (z2 : St), TM z2 → Same [0, 1] [28] z z2 → (True) → P r z2) : wp_X9_level b1 b2 z P := by
  unfold wp_X9_level
  intro z1 ez1
  have tz1 : TM z1 := by rw [ez1]; exact Ty_wI ht trivial
  have oz1 : Same [0, 1] [28] z z1 := (Same.rf (z := z)).i (by decide) ez1
  refine ⟨fun c2 => ?_, fun c2 => ?_⟩
  · skip
    have i_1 := i_le (show (0 : Int32).toInt = 0 by decide) rfl c2
    refine s_X9_isStore b1 z1 _ tz1  (fun r4 hp_2 => ?_)
    rcases hp_2 with ⟨er4, hp_2⟩ | ⟨er4, hp_2⟩
    · subst er4
      have f_3 : 0 ≤ (gI z1 43).toInt ∧ (gI z1 43).toInt ≤ 6 := tz1.1 43
      have q_4 := (show (gI z1 43).toInt = (gI z 43).toInt by rw [ez1]; rfl)
      have f_5 : 0 ≤ (gI z 43).toInt ∧ (gI z 43).toInt ≤ 6 := ht.1 43
      refine ⟨fun _ => ?_, fun hc => absurd hc (by decide)⟩
      refine ⟨vin rfl (by omega) (by omega), ?_⟩
      refine ⟨fun c6 => ?_, fun c6 => ?_⟩
      · skip
        have f_6 : 0 ≤ (gF z1 27 b1.toNatClampNeg).toInt ∧ (gF z1 27 b1.toNatClampNeg).toInt ≤ 40 := tz1.2 27 _
        have q_7 := (show (gF z1 27 b1.toNatClampNeg).toInt = (gF z 27 b1.toNatClampNeg).toInt by rw [ez1]; rfl)
        have f_8 : 0 ≤ (gF z 27 b1.toNatClampNeg).toInt ∧ (gF z 27 b1.toNatClampNeg).toInt ≤ 40 := ht.2 27 _
        have i_9 := i_le rfl rfl c6
        refine ⟨vin rfl (by omega) (by omega), ?_⟩
        intro x7 ex7
        have f_10 : 0 ≤ (gF z1 28 b1.toNatClampNeg).toInt ∧ (gF z1 28 b1.toNatClampNeg).toInt ≤ 40 := tz1.2 28 _
        have q_11 := (show (gF z1 28 b1.toNatClampNeg).toInt = (gF z 28 b1.toNatClampNeg).toInt by rw [ez1]; rfl)
        have f_12 : 0 ≤ (gF z 28 b1.toNatClampNeg).toInt ∧ (gF z 28 b1.toNatClampNeg).toInt ≤ 40 := ht.2 28 _
        have ix7 : x7.toInt = (gF z1 28 b1.toNatClampNeg).toInt := by rw [ex7]
        refine ⟨vin rfl (by omega) (by omega), ?_⟩
        intro z8 ez8
        have tz8 : TM z8 := by rw [ez8]; exact Ty_wR tz1 (show 0 ≤ b2.toInt ∧ b2.toInt ≤ 40 from by omega)
        have oz8 : Same [0, 1] [28] z z8 := oz1.r (by decide) ez8
        refine s_X9_told x7 z8 _ tz8  (fun r10 z9 tz9 o_14 hp_13 => ?_)
        have oz9 : Same [0, 1] [28] z z9 := oz8.tr o_14 (by decide) (by decide)
        exact hk r10 z9 tz9 oz9 trivial
      · skip
        have f_15 : 0 ≤ (gF z1 27 b1.toNatClampNeg).toInt ∧ (gF z1 27 b1.toNatClampNeg).toInt ≤ 40 := tz1.2 27 _
        have q_16 := (show (gF z1 27 b1.toNatClampNeg).toInt = (gF z 27 b1.toNatClampNeg).toInt by rw [ez1]; rfl)
        have f_17 : 0 ≤ (gF z 27 b1.toNatClampNeg).toInt ∧ (gF z 27 b1.toNatClampNeg).toInt ≤ 40 := ht.2 27 _
        have i_18 := i_nle rfl rfl c6
        have g_19 : (-1 : Int32).toInt = -1 := by decide
        refine s_X9_told ((-1 : Int32)) z1 _ tz1  (fun r12 z11 tz11 o_21 hp_20 => ?_)
        have oz11 : Same [0, 1] [28] z z11 := oz1.tr o_21 (by decide) (by decide)
        exact hk r12 z11 tz11 oz11 trivial
    · subst er4
      have f_22 : 0 ≤ (gI z1 43).toInt ∧ (gI z1 43).toInt ≤ 6 := tz1.1 43
      have q_23 := (show (gI z1 43).toInt = (gI z 43).toInt by rw [ez1]; rfl)
      have f_24 : 0 ≤ (gI z 43).toInt ∧ (gI z 43).toInt ≤ 6 := ht.1 43
      refine ⟨fun hc => absurd hc (by decide), fun _ => ?_⟩
      have g_25 : (-2 : Int32).toInt = -2 := by decide
      refine s_X9_told ((-2 : Int32)) z1 _ tz1  (fun r14 z13 tz13 o_27 hp_26 => ?_)
      have oz13 : Same [0, 1] [28] z z13 := oz1.tr o_27 (by decide) (by decide)
      exact hk r14 z13 tz13 oz13 trivial
  · skip
    have i_28 := i_nle (show (0 : Int32).toInt = 0 by decide) rfl c2
    have g_29 : (-1 : Int32).toInt = -1 := by decide
    refine s_X9_told ((-1 : Int32)) z1 _ tz1  (fun r16 z15 tz15 o_31 hp_30 => ?_)
    have oz15 : Same [0, 1] [28] z z15 := oz1.tr o_31 (by decide) (by decide)
    exact hk r16 z15 tz15 oz15 trivial

set_option maxHeartbeats 2000000 in
theorem s_X9_afterwards (b1 : Int32) (b2 : Int32) (z : St) (P : Int32 → Prop) (ht : TM z) (h0 : 0 ≤ b1.toInt ∧ b1.toInt ≤ 5) (h1 : 0 ≤ b2.toInt ∧ b2.toInt ≤ 40) (hk : ∀ r : Int32, 0 ≤ r.toInt ∧ r.toInt ≤ b2.toInt → P r) : wp_X9_afterwards b1 b2 z P := by
  unfold wp_X9_afterwards
  refine ⟨vin rfl (by omega) (by omega), ?_⟩
  refine ⟨fun c1 => ?_, fun c1 => ?_⟩
  · skip
    have f_1 : 0 ≤ (gF z 31 b1.toNatClampNeg).toInt ∧ (gF z 31 b1.toNatClampNeg).toInt ≤ 3 := ht.2 31 _
    have i_2 := i_le rfl rfl c1
    refine ⟨vin rfl (by omega) (by omega), ?_⟩
    have g_3 : (b2 - (gF z 31 b1.toNatClampNeg)).toInt = (b2.toInt - (gF z 31 b1.toNatClampNeg).toInt) := (a_sub rfl rfl (by omega) (by omega))
    exact hk (b2 - (gF z 31 b1.toNatClampNeg)) (by omega)
  · skip
    have f_4 : 0 ≤ (gF z 31 b1.toNatClampNeg).toInt ∧ (gF z 31 b1.toNatClampNeg).toInt ≤ 3 := ht.2 31 _
    have i_5 := i_nle rfl rfl c1
    have g_6 : (0 : Int32).toInt = 0 := by decide
    exact hk ((0 : Int32)) (by omega)

set_option maxHeartbeats 2000000 in
theorem s_X9_goes (b1 : Int32) (b2 : Int32) (b3 : Int32) (b4 : Int32) (b5 : Int32) (z : St) (P : Int32 → Prop) (ht : TM z) (h0 : 0 ≤ b1.toInt ∧ b1.toInt ≤ 5) (h1 : 0 ≤ b2.toInt ∧ b2.toInt ≤ 40) (h2 : -10 ≤ b3.toInt ∧ b3.toInt ≤ 10) (hk : ∀ r : Int32, (r = 1 ∧ (0 ≤ b2.toInt + b3.toInt ∧ b2.toInt + b3.toInt ≤ 40)) ∨ (r = 0 ∧ (True)) → P r) : wp_X9_goes b1 b2 b3 b4 b5 z P := by
  unfold wp_X9_goes
  refine ⟨vin rfl (by omega) (by omega), ?_⟩
  have g_1 : (Int32.toInt64 (b2 + b3)).toInt = (b2.toInt + b3.toInt) := (a_wide (a_add rfl rfl (by omega) (by omega)))
  have g_2 : (0 : Int64).toInt = 0 := by decide
  have f_3 : 0 ≤ (gF z 27 b1.toNatClampNeg).toInt ∧ (gF z 27 b1.toNatClampNeg).toInt ≤ 40 := ht.2 27 _
  have g_4 : (Int32.toInt64 (gF z 27 b1.toNatClampNeg)).toInt = (gF z 27 b1.toNatClampNeg).toInt := (a_wide rfl)
  refine s_X9_in (Int32.toInt64 (b2 + b3)) ((0 : Int64)) (Int32.toInt64 (gF z 27 b1.toNatClampNeg)) z _ ht  (fun r2 hp_5 => ?_)
  rcases hp_5 with ⟨er2, hp_5⟩ | ⟨er2, hp_5⟩
  · subst er2
    refine ⟨fun _ => ?_, fun hc => absurd hc (by decide)⟩
    refine ⟨vin rfl (by omega) (by omega), ?_⟩
    intro x4 ex4
    have ix4 : x4.toInt = (b3 * (gF z 32 b1.toNatClampNeg)).toInt := by rw [ex4]
    refine ⟨fun c5 => ?_, fun c5 => ?_⟩
    · skip
      have i_6 := i_eq rfl (show (0 : Int32).toInt = 0 by decide) c5
      have g_7 : (1 : Int32).toInt = 1 := by decide
      exact hk ((1 : Int32)) (Or.inl ⟨rfl, (by omega)⟩)
    · skip
      have i_8 := i_ne rfl (show (0 : Int32).toInt = 0 by decide) c5
      refine ⟨fun c6 => ?_, fun c6 => ?_⟩
      · skip
        have i_9 := i_le rfl (show (0 : Int32).toInt = 0 by decide) c6
        refine ⟨fun c7 => ?_, fun c7 => ?_⟩
        · skip
          have i_10 := i_lt rfl rfl c7
          have g_11 : (0 : Int32).toInt = 0 := by decide
          exact hk ((0 : Int32)) (Or.inr ⟨rfl, trivial⟩)
        · skip
          have i_12 := i_nlt rfl rfl c7
          have g_13 : (1 : Int32).toInt = 1 := by decide
          exact hk ((1 : Int32)) (Or.inl ⟨rfl, (by omega)⟩)
      · skip
        have i_14 := i_nle rfl (show (0 : Int32).toInt = 0 by decide) c6
        refine ⟨vin rfl (by omega) (by omega), ?_⟩
        have f_15 : 0 ≤ (gF z 26 b1.toNatClampNeg).toInt ∧ (gF z 26 b1.toNatClampNeg).toInt ≤ 3 := ht.2 26 _
        refine ⟨vin rfl (by omega) (by omega), ?_⟩
        refine ⟨fun c8 => ?_, fun c8 => ?_⟩
        · skip
          have i_16 := i_lt rfl rfl c8
          have g_17 : (0 : Int32).toInt = 0 := by decide
          exact hk ((0 : Int32)) (Or.inr ⟨rfl, trivial⟩)
        · skip
          have i_18 := i_nlt rfl rfl c8
          have g_19 : (1 : Int32).toInt = 1 := by decide
          exact hk ((1 : Int32)) (Or.inl ⟨rfl, (by omega)⟩)
  · subst er2
    refine ⟨fun hc => absurd hc (by decide), fun _ => ?_⟩
    have g_20 : (0 : Int32).toInt = 0 := by decide
    exact hk ((0 : Int32)) (Or.inr ⟨rfl, trivial⟩)

set_option maxHeartbeats 2000000 in
theorem s_X9_filled (b1 : Int32) (b2 : Int32) (z : St) (P : Int32 → St → Prop) (ht : TM z)  (hk : ∀ (r : Int32) (z2 : St), TM z2 → Same [0] [] z z2 → (True) → P r z2) : wp_X9_filled b1 b2 z P := by
  unfold wp_X9_filled
  intro z1 ez1
  have tz1 : TM z1 := by rw [ez1]; exact Ty_wI ht trivial
  have oz1 : Same [0] [] z z1 := (Same.rf (z := z)).i (by decide) ez1
  have g_1 : (Int32.toInt64 b1).toInt = b1.toInt := (a_wide rfl)
  have g_2 : (0 : Int64).toInt = 0 := by decide
  have f_3 : 0 ≤ (gI z1 55).toInt ∧ (gI z1 55).toInt ≤ 48 := tz1.1 55
  have q_4 := (show (gI z1 55).toInt = (gI z 55).toInt by rw [ez1]; rfl)
  have f_5 : 0 ≤ (gI z 55).toInt ∧ (gI z 55).toInt ≤ 48 := ht.1 55
  have g_6 : ((Int32.toInt64 (gI z1 55)) - (1 : Int64)).toInt = ((gI z1 55).toInt - (1)) := (a_subL (a_wide rfl) (show (1 : Int64).toInt = 1 by decide) (by omega) (by omega))
  refine s_X9_in (Int32.toInt64 b1) ((0 : Int64)) ((Int32.toInt64 (gI z1 55)) - ((1 : Int64))) z1 _ tz1  (fun r3 hp_7 => ?_)
  rcases hp_7 with ⟨er3, hp_7⟩ | ⟨er3, hp_7⟩
  · subst er3
    refine ⟨fun _ => ?_, fun hc => absurd hc (by decide)⟩
    refine ⟨fun c5 => ?_, fun c5 => ?_⟩
    · skip
      have i_8 := i_ne rfl (show (0 : Int32).toInt = 0 by decide) c5
      refine ⟨fun c6 => ?_, fun c6 => ?_⟩
      · skip
        have i_9 := i_ne rfl (show (1 : Int32).toInt = 1 by decide) c6
        have g_10 : (-1000 : Int32).toInt = -1000 := by decide
        exact hk ((-1000 : Int32)) z1 tz1 oz1 trivial
      · skip
        have i_11 := i_eq rfl (show (1 : Int32).toInt = 1 by decide) c6
        refine ⟨vin rfl (by omega) (by omega), ?_⟩
        have q_12 := (show (gF z1 36 b1.toNatClampNeg).toInt = (gF z 36 b1.toNatClampNeg).toInt by rw [ez1]; rfl)
        exact hk (gF z1 36 b1.toNatClampNeg) z1 tz1 oz1 trivial
    · skip
      have i_13 := i_eq rfl (show (0 : Int32).toInt = 0 by decide) c5
      refine ⟨vin rfl (by omega) (by omega), ?_⟩
      have q_14 := (show (gF z1 35 b1.toNatClampNeg).toInt = (gF z 35 b1.toNatClampNeg).toInt by rw [ez1]; rfl)
      exact hk (gF z1 35 b1.toNatClampNeg) z1 tz1 oz1 trivial
  · subst er3
    refine ⟨fun hc => absurd hc (by decide), fun _ => ?_⟩
    have g_15 : (-1000 : Int32).toInt = -1000 := by decide
    exact hk ((-1000 : Int32)) z1 tz1 oz1 trivial

set_option maxHeartbeats 2000000 in
theorem s_X9_jobsThat (b1 : Int32) (z : St) (P : Int32 → Prop) (ht : TM z)  (hk : ∀ r : Int32, True → P r) : wp_X9_jobsThat b1 z P := by
  unfold wp_X9_jobsThat
  intro K3 hK_1
  have L_2 : ∀ (n : Nat) (v1 : Int32) (v2 : Int32), (0 ≤ v2.toInt) → (v2.toInt ≤ 16) → (16 - v2.toInt).toNat < n → K3 v1 v2 := by
    intro n
    induction n with
    | zero => intro v1 v2 w_3 w_4 m_6; omega
    | succ n ih_5 =>
      intro v1 v2 w_3 w_4 m_6
      refine hK_1 v1 v2 ?_
      refine ⟨fun c4 => ?_, fun c4 => ?_⟩
      · skip
        have f_7 : 0 ≤ (gI z 12).toInt ∧ (gI z 12).toInt ≤ 16 := ht.1 12
        have i_8 := i_le rfl rfl c4
        exact hk v1 trivial
      · skip
        have f_9 : 0 ≤ (gI z 12).toInt ∧ (gI z 12).toInt ≤ 16 := ht.1 12
        have i_10 := i_nle rfl rfl c4
        refine ⟨vin rfl (by omega) (by omega), ?_⟩
        intro K7 hK_11
        refine ⟨fun c10 => ?_, fun c10 => ?_⟩
        · skip
          have i_12 := i_ne rfl rfl c10
          refine hK_11 ((0 : Int32)) v1 ?_
          intro y_13 ey_13
          have iy_13 : y_13.toInt = (v1 + (0 : Int32)).toInt := by rw [ey_13]
          intro y_14 ey_14
          have iy_14 : y_14.toInt = (v2.toInt + (1)) := by rw [ey_14]; exact (a_add rfl (show (1 : Int32).toInt = 1 by decide) (by omega) (by omega))
          exact ih_5 y_13 y_14 (by omega) (by omega) (by omega)
        · skip
          have i_15 := i_eq rfl rfl c10
          refine hK_11 ((1 : Int32)) v1 ?_
          intro y_16 ey_16
          have iy_16 : y_16.toInt = (v1 + (1 : Int32)).toInt := by rw [ey_16]
          intro y_17 ey_17
          have iy_17 : y_17.toInt = (v2.toInt + (1)) := by rw [ey_17]; exact (a_add rfl (show (1 : Int32).toInt = 1 by decide) (by omega) (by omega))
          exact ih_5 y_16 y_17 (by omega) (by omega) (by omega)
  have g_18 : (0 : Int32).toInt = 0 := by decide
  have g_19 : (0 : Int32).toInt = 0 := by decide
  exact L_2 ((16 - (0 : Int32).toInt).toNat + 1) ((0 : Int32)) ((0 : Int32)) (by omega) (by omega) (by omega)

set_option maxHeartbeats 2000000 in
theorem s_X9_count (b1 : Int32) (z : St) (P : Int32 → St → Prop) (ht : TM z)  (hk : ∀ (r : Int32) (z2 : St), TM z2 → Same [0] [] z z2 → (True) → P r z2) : wp_X9_count b1 z P := by
  unfold wp_X9_count
  intro z1 ez1
  have tz1 : TM z1 := by rw [ez1]; exact Ty_wI ht trivial
  have oz1 : Same [0] [] z z1 := (Same.rf (z := z)).i (by decide) ez1
  refine ⟨fun c2_0 => ?_, fun c2_1 => ?_, fun c2_2 => ?_, fun c2_3 => ?_, fun c2_4 => ?_, fun c2_5 => ?_, fun c2_6 => ?_, fun c2_7 => ?_, fun c2_8 => ?_, fun c2_9 => ?_, fun c2_d => ?_⟩
  · skip
    have f_1 : 0 ≤ (gI z1 2).toInt ∧ (gI z1 2).toInt ≤ 167 := tz1.1 2
    have q_2 := (show (gI z1 2).toInt = (gI z 2).toInt by rw [ez1]; rfl)
    have f_3 : 0 ≤ (gI z 2).toInt ∧ (gI z 2).toInt ≤ 167 := ht.1 2
    exact hk (gI z1 2) z1 tz1 oz1 trivial
  · skip
    have f_4 : 0 ≤ (gI z1 8).toInt ∧ (gI z1 8).toInt ≤ 4 := tz1.1 8
    have q_5 := (show (gI z1 8).toInt = (gI z 8).toInt by rw [ez1]; rfl)
    have f_6 : 0 ≤ (gI z 8).toInt ∧ (gI z 8).toInt ≤ 4 := ht.1 8
    exact hk (gI z1 8) z1 tz1 oz1 trivial
  · skip
    have f_7 : 0 ≤ (gI z1 12).toInt ∧ (gI z1 12).toInt ≤ 16 := tz1.1 12
    have q_8 := (show (gI z1 12).toInt = (gI z 12).toInt by rw [ez1]; rfl)
    have f_9 : 0 ≤ (gI z 12).toInt ∧ (gI z 12).toInt ≤ 16 := ht.1 12
    exact hk (gI z1 12) z1 tz1 oz1 trivial
  · skip
    have f_10 : 0 ≤ (gI z1 3).toInt ∧ (gI z1 3).toInt ≤ 400 := tz1.1 3
    have q_11 := (show (gI z1 3).toInt = (gI z 3).toInt by rw [ez1]; rfl)
    have f_12 : 0 ≤ (gI z 3).toInt ∧ (gI z 3).toInt ≤ 400 := ht.1 3
    exact hk (gI z1 3) z1 tz1 oz1 trivial
  · skip
    have f_13 : 0 ≤ (gI z1 22).toInt ∧ (gI z1 22).toInt ≤ 20 := tz1.1 22
    have q_14 := (show (gI z1 22).toInt = (gI z 22).toInt by rw [ez1]; rfl)
    have f_15 : 0 ≤ (gI z 22).toInt ∧ (gI z 22).toInt ≤ 20 := ht.1 22
    exact hk (gI z1 22) z1 tz1 oz1 trivial
  · skip
    have f_16 : 0 ≤ (gI z1 43).toInt ∧ (gI z1 43).toInt ≤ 6 := tz1.1 43
    have q_17 := (show (gI z1 43).toInt = (gI z 43).toInt by rw [ez1]; rfl)
    have f_18 : 0 ≤ (gI z 43).toInt ∧ (gI z 43).toInt ≤ 6 := ht.1 43
    exact hk (gI z1 43) z1 tz1 oz1 trivial
  · skip
    have f_19 : 0 ≤ (gI z1 36).toInt ∧ (gI z1 36).toInt ≤ 300 := tz1.1 36
    have q_20 := (show (gI z1 36).toInt = (gI z 36).toInt by rw [ez1]; rfl)
    have f_21 : 0 ≤ (gI z 36).toInt ∧ (gI z 36).toInt ≤ 300 := ht.1 36
    exact hk (gI z1 36) z1 tz1 oz1 trivial
  · skip
    have g_22 : (0 : Int32).toInt = 0 := by decide
    refine s_X9_jobsThat ((0 : Int32)) z1 _ tz1  (fun r4 hp_23 => ?_)
    exact hk r4 z1 tz1 oz1 trivial
  · skip
    have g_24 : (1 : Int32).toInt = 1 := by decide
    refine s_X9_jobsThat ((1 : Int32)) z1 _ tz1  (fun r6 hp_25 => ?_)
    exact hk r6 z1 tz1 oz1 trivial
  · skip
    have g_26 : (2 : Int32).toInt = 2 := by decide
    refine s_X9_jobsThat ((2 : Int32)) z1 _ tz1  (fun r8 hp_27 => ?_)
    exact hk r8 z1 tz1 oz1 trivial
  · skip
    have g_28 : (-1 : Int32).toInt = -1 := by decide
    exact hk ((-1 : Int32)) z1 tz1 oz1 trivial

set_option maxHeartbeats 2000000 in
theorem s_X9_status  (z : St) (P : Int32 → St → Prop) (ht : TM z)  (hk : ∀ (r : Int32) (z2 : St), TM z2 → Same [0] [] z z2 → (True) → P r z2) : wp_X9_status  z P := by
  unfold wp_X9_status
  intro z1 ez1
  have tz1 : TM z1 := by rw [ez1]; exact Ty_wI ht trivial
  have oz1 : Same [0] [] z z1 := (Same.rf (z := z)).i (by decide) ez1
  have q_1 := (show (gI z1 1).toInt = (gI z 1).toInt by rw [ez1]; rfl)
  exact hk (gI z1 1) z1 tz1 oz1 trivial
