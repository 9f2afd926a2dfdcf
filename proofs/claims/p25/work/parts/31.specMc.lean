set_option maxHeartbeats 2000000 in
theorem s_X9_isDear (b1 : Int32) (z : St) (P : Int32 → St → Prop) (ht : TM z) (h0 : 0 ≤ b1.toInt ∧ b1.toInt ≤ 167) (hk : ∀ (r : Int32) (z2 : St), TM z2 → Same [21] [13] z z2 → ((r = 1 ∧ (True)) ∨ (r = 0 ∧ (True))) → P r z2) : wp_X9_isDear b1 z P := by
  unfold wp_X9_isDear
  intro K3 hK_1
  have L_2 : ∀ (n : Nat) (v1 : Int32) (v2 : Int32) (z4 : St), TM z4 → Same [21] [13] z z4 → (0 ≤ v2.toInt) → (v2.toInt ≤ 20) → (v1 = 0 ∨ v1 = 1) → (20 - v2.toInt).toNat < n → K3 v1 v2 z4 := by
    intro n
    induction n with
    | zero => intro v1 v2 z4 tz4 ocz4 w_3 w_4 w_5 m_7; omega
    | succ n ih_6 =>
      intro v1 v2 z4 tz4 ocz4 w_3 w_4 w_5 m_7
      refine hK_1 v1 v2 z4 ?_
      refine ⟨fun c5 => ?_, fun c5 => ?_⟩
      · skip
        have f_8 : 0 ≤ (gI z4 22).toInt ∧ (gI z4 22).toInt ≤ 20 := tz4.1 22
        have q_9 := (ocz4.fi 22 (by decide))
        have f_10 : 0 ≤ (gI z 22).toInt ∧ (gI z 22).toInt ≤ 20 := ht.1 22
        have i_11 := i_le rfl rfl c5
        have hb9 : v1 = 0 ∨ v1 = 1 := by first | assumption | omega
        refine ⟨hb9, ?_⟩
        rcases hb9 with e9 | e9
        · exact hk v1 z4 tz4 ocz4 (Or.inr ⟨e9, trivial⟩)
        · exact hk v1 z4 tz4 ocz4 (Or.inl ⟨e9, trivial⟩)
      · skip
        have f_12 : 0 ≤ (gI z4 22).toInt ∧ (gI z4 22).toInt ≤ 20 := tz4.1 22
        have q_13 := (ocz4.fi 22 (by decide))
        have f_14 : 0 ≤ (gI z 22).toInt ∧ (gI z 22).toInt ≤ 20 := ht.1 22
        have i_15 := i_nle rfl rfl c5
        intro K7 hK_16
        intro K10 hK_17
        refine ⟨fun c12 => ?_, fun c12 => ?_⟩
        · skip
          have i_18 := i_ne rfl (show (0 : Int32).toInt = 0 by decide) c12
          refine hK_17 z4 ?_
          refine hK_16 ((1 : Int32)) z4 ?_
          intro y_19 ey_19
          have iy_19 : y_19.toInt = (v2.toInt + (1)) := by rw [ey_19]; exact (a_add rfl (show (1 : Int32).toInt = 1 by decide) (by omega) (by omega))
          have g_20 : (1 : Int32).toInt = 1 := by decide
          exact ih_6 ((1 : Int32)) y_19 z4 tz4 ocz4 (by omega) (by omega) (by first | omega | assumption | decide) (by omega)
        · skip
          have i_21 := i_eq rfl (show (0 : Int32).toInt = 0 by decide) c12
          refine ⟨vin rfl (by omega) (by omega), ?_⟩
          intro K13 hK_22
          refine ⟨fun c15 => ?_, fun c15 => ?_⟩
          · skip
            have q_23 := (ocz4.ff 14 v2.toNatClampNeg (by decide))
            have i_24 := i_ne rfl (show (1 : Int32).toInt = 1 by decide) c15
            refine hK_22 z4 ?_
            refine hK_16 ((0 : Int32)) z4 ?_
            intro y_25 ey_25
            have iy_25 : y_25.toInt = (v2.toInt + (1)) := by rw [ey_25]; exact (a_add rfl (show (1 : Int32).toInt = 1 by decide) (by omega) (by omega))
            have g_26 : (0 : Int32).toInt = 0 := by decide
            exact ih_6 ((0 : Int32)) y_25 z4 tz4 ocz4 (by omega) (by omega) (by first | omega | assumption | decide) (by omega)
          · skip
            have q_27 := (ocz4.ff 14 v2.toNatClampNeg (by decide))
            have i_28 := i_eq rfl (show (1 : Int32).toInt = 1 by decide) c15
            refine s_X9_nowOf b1 z4 _ tz4 (by omega) (fun r17 z16 tz16 o_30 hp_29 => ?_)
            have oz16 : Same [21] [13] z z16 := ocz4.tr o_30 (by decide) (by decide)
            refine ⟨vin rfl (by omega) (by omega), ?_⟩
            refine ⟨fun c18 => ?_, fun c18 => ?_⟩
            · skip
              have q_31 := ((o_30.ff 15 v2.toNatClampNeg (by decide))).trans (ocz4.ff 15 v2.toNatClampNeg (by decide))
              have i_32 := i_le rfl rfl c18
              refine hK_22 z16 ?_
              refine hK_16 ((0 : Int32)) z16 ?_
              intro y_33 ey_33
              have iy_33 : y_33.toInt = (v2.toInt + (1)) := by rw [ey_33]; exact (a_add rfl (show (1 : Int32).toInt = 1 by decide) (by omega) (by omega))
              have g_34 : (0 : Int32).toInt = 0 := by decide
              exact ih_6 ((0 : Int32)) y_33 z16 tz16 oz16 (by omega) (by omega) (by first | omega | assumption | decide) (by omega)
            · skip
              have q_35 := ((o_30.ff 15 v2.toNatClampNeg (by decide))).trans (ocz4.ff 15 v2.toNatClampNeg (by decide))
              have i_36 := i_nle rfl rfl c18
              refine hK_17 z16 ?_
              refine hK_16 ((1 : Int32)) z16 ?_
              intro y_37 ey_37
              have iy_37 : y_37.toInt = (v2.toInt + (1)) := by rw [ey_37]; exact (a_add rfl (show (1 : Int32).toInt = 1 by decide) (by omega) (by omega))
              have g_38 : (1 : Int32).toInt = 1 := by decide
              exact ih_6 ((1 : Int32)) y_37 z16 tz16 oz16 (by omega) (by omega) (by first | omega | assumption | decide) (by omega)
  have g_39 : (0 : Int32).toInt = 0 := by decide
  have g_40 : (0 : Int32).toInt = 0 := by decide
  exact L_2 ((20 - (0 : Int32).toInt).toNat + 1) ((0 : Int32)) ((0 : Int32)) z ht (Same.rf (z := z)) (by omega) (by omega) (by first | omega | assumption | decide) (by omega)

set_option maxHeartbeats 2000000 in
theorem s_X9_drawnBy (b1 : Int32) (b2 : Int32) (z : St) (P : Int32 → Prop) (ht : TM z) (h0 : 0 ≤ b1.toInt ∧ b1.toInt ≤ 15) (hk : ∀ r : Int32, True → P r) : wp_X9_drawnBy b1 b2 z P := by
  unfold wp_X9_drawnBy
  refine ⟨vin rfl (by omega) (by omega), ?_⟩
  intro x1 ex1
  have ix1 : x1.toInt = (b2 - (gF z 12 b1.toNatClampNeg)).toInt := by rw [ex1]
  refine ⟨vin rfl (by omega) (by omega), ?_⟩
  refine ⟨fun c2 => ?_, fun c2 => ?_⟩
  · skip
    have i_1 := i_eq rfl (show (0 : Int32).toInt = 0 by decide) c2
    have g_2 : (0 : Int32).toInt = 0 := by decide
    exact hk ((0 : Int32)) trivial
  · skip
    have i_3 := i_ne rfl (show (0 : Int32).toInt = 0 by decide) c2
    refine ⟨vin rfl (by omega) (by omega), ?_⟩
    have g_4 : (Int32.toInt64 x1).toInt = x1.toInt := (a_wide rfl)
    have g_5 : (0 : Int64).toInt = 0 := by decide
    have f_6 : 0 ≤ (gF z 9 b1.toNatClampNeg).toInt ∧ (gF z 9 b1.toNatClampNeg).toInt ≤ 4 := ht.2 9 _
    have g_7 : ((Int32.toInt64 (gF z 9 b1.toNatClampNeg)) - (1 : Int64)).toInt = ((gF z 9 b1.toNatClampNeg).toInt - (1)) := (a_subL (a_wide rfl) (show (1 : Int64).toInt = 1 by decide) (by omega) (by omega))
    refine s_X9_in (Int32.toInt64 x1) ((0 : Int64)) ((Int32.toInt64 (gF z 9 b1.toNatClampNeg)) - ((1 : Int64))) z _ ht  (fun r4 hp_8 => ?_)
    rcases hp_8 with ⟨er4, hp_8⟩ | ⟨er4, hp_8⟩
    · subst er4
      refine ⟨fun hc => absurd hc (by decide), fun _ => ?_⟩
      refine ⟨vin (a_add (a_mul (show (4 : Int32).toInt = 4 by decide) rfl (by omega) (by omega)) rfl (by omega) (by omega)) (by omega) (by omega), ?_⟩
      exact hk (gF z 10 ((((4 : Int32)) * b1) + x1).toNatClampNeg) trivial
    · subst er4
      refine ⟨fun _ => ?_, fun hc => absurd (show ((0 : Int32)) = ((0 : Int32)) by decide) hc⟩
      have g_9 : (0 : Int32).toInt = 0 := by decide
      exact hk ((0 : Int32)) trivial

set_option maxHeartbeats 2000000 in
theorem s_X9_loadOf (b1 : Int32) (b2 : Int32) (b3 : Int32) (z : St) (P : Int32 → Prop) (ht : TM z) (h0 : 0 ≤ b1.toInt ∧ b1.toInt ≤ 3) (h1 : 0 ≤ b2.toInt ∧ b2.toInt ≤ 167) (hk : ∀ r : Int32, True → P r) : wp_X9_loadOf b1 b2 b3 z P := by
  unfold wp_X9_loadOf
  refine ⟨vin (a_add (a_mul (show (24 : Int32).toInt = 24 by decide) rfl (by omega) (by omega)) (a_rem rfl (by omega) rfl) (by omega) (by omega)) (by omega) (by omega), ?_⟩
  intro x1 ex1
  have ix1 : x1.toInt = (gF z 5 (((24 : Int32) * b1) + (b2 - b2 / (24 : Int32) * (24 : Int32))).toNatClampNeg).toInt := by rw [ex1]
  intro K4 hK_1
  have L_2 : ∀ (n : Nat) (v2 : Int32) (v3 : Int32), (0 ≤ v3.toInt) → (v3.toInt ≤ 16) → (16 - v3.toInt).toNat < n → K4 v2 v3 := by
    intro n
    induction n with
    | zero => intro v2 v3 w_3 w_4 m_6; omega
    | succ n ih_5 =>
      intro v2 v3 w_3 w_4 m_6
      refine hK_1 v2 v3 ?_
      refine ⟨fun c5 => ?_, fun c5 => ?_⟩
      · skip
        have f_7 : 0 ≤ (gI z 12).toInt ∧ (gI z 12).toInt ≤ 16 := ht.1 12
        have i_8 := i_le rfl rfl c5
        exact hk v2 trivial
      · skip
        have f_9 : 0 ≤ (gI z 12).toInt ∧ (gI z 12).toInt ≤ 16 := ht.1 12
        have i_10 := i_nle rfl rfl c5
        intro K8 hK_11
        intro K12 hK_12
        refine ⟨fun c13 => ?_, fun c13 => ?_⟩
        · skip
          have i_13 := i_eq rfl rfl c13
          refine hK_12 v2 ?_
          refine hK_11 ((0 : Int32)) v2 ?_
          intro y_14 ey_14
          have iy_14 : y_14.toInt = (v2 + (0 : Int32)).toInt := by rw [ey_14]
          intro y_15 ey_15
          have iy_15 : y_15.toInt = (v3.toInt + (1)) := by rw [ey_15]; exact (a_add rfl (show (1 : Int32).toInt = 1 by decide) (by omega) (by omega))
          exact ih_5 y_14 y_15 (by omega) (by omega) (by omega)
        · skip
          have i_16 := i_ne rfl rfl c13
          refine ⟨vin rfl (by omega) (by omega), ?_⟩
          refine ⟨fun c14 => ?_, fun c14 => ?_⟩
          · skip
            have f_17 : 0 ≤ (gF z 6 v3.toNatClampNeg).toInt ∧ (gF z 6 v3.toNatClampNeg).toInt ≤ 3 := ht.2 6 _
            have i_18 := i_ne rfl rfl c14
            refine hK_12 v2 ?_
            refine hK_11 ((0 : Int32)) v2 ?_
            intro y_19 ey_19
            have iy_19 : y_19.toInt = (v2 + (0 : Int32)).toInt := by rw [ey_19]
            intro y_20 ey_20
            have iy_20 : y_20.toInt = (v3.toInt + (1)) := by rw [ey_20]; exact (a_add rfl (show (1 : Int32).toInt = 1 by decide) (by omega) (by omega))
            exact ih_5 y_19 y_20 (by omega) (by omega) (by omega)
          · skip
            have f_21 : 0 ≤ (gF z 6 v3.toNatClampNeg).toInt ∧ (gF z 6 v3.toNatClampNeg).toInt ≤ 3 := ht.2 6 _
            have i_22 := i_eq rfl rfl c14
            refine s_X9_drawnBy v3 b2 z _ ht (by omega) (fun r16 hp_23 => ?_)
            refine hK_11 r16 v2 ?_
            intro y_24 ey_24
            have iy_24 : y_24.toInt = (v2 + r16).toInt := by rw [ey_24]
            intro y_25 ey_25
            have iy_25 : y_25.toInt = (v3.toInt + (1)) := by rw [ey_25]; exact (a_add rfl (show (1 : Int32).toInt = 1 by decide) (by omega) (by omega))
            exact ih_5 y_24 y_25 (by omega) (by omega) (by omega)
  have g_26 : (0 : Int32).toInt = 0 := by decide
  exact L_2 ((16 - (0 : Int32).toInt).toNat + 1) x1 ((0 : Int32)) (by omega) (by omega) (by omega)

set_option maxHeartbeats 2000000 in
theorem s_X9_mayBegin (b1 : Int32) (b2 : Int32) (z : St) (P : Int32 → St → Prop) (ht : TM z) (h0 : 0 ≤ b1.toInt ∧ b1.toInt ≤ 15) (hk : ∀ (r : Int32) (z2 : St), TM z2 → Same [21] [13] z z2 → ((r = 1 ∧ (True)) ∨ (r = 0 ∧ (True))) → P r z2) : wp_X9_mayBegin b1 b2 z P := by
  unfold wp_X9_mayBegin
  refine ⟨fun c1 => ?_, fun c1 => ?_⟩
  · skip
    have f_1 : 0 ≤ (gI z 2).toInt ∧ (gI z 2).toInt ≤ 167 := ht.1 2
    have i_2 := i_lt rfl rfl c1
    have g_3 : (0 : Int32).toInt = 0 := by decide
    exact hk ((0 : Int32)) z ht (Same.rf (z := z)) (Or.inr ⟨rfl, trivial⟩)
  · skip
    have f_4 : 0 ≤ (gI z 2).toInt ∧ (gI z 2).toInt ≤ 167 := ht.1 2
    have i_5 := i_nlt rfl rfl c1
    refine ⟨vin rfl (by omega) (by omega), ?_⟩
    refine ⟨vin rfl (by omega) (by omega), ?_⟩
    have g_6 : (Int32.toInt64 b2).toInt = b2.toInt := (a_wide rfl)
    have f_7 : 0 ≤ (gF z 7 b1.toNatClampNeg).toInt ∧ (gF z 7 b1.toNatClampNeg).toInt ≤ 167 := ht.2 7 _
    have g_8 : (Int32.toInt64 (gF z 7 b1.toNatClampNeg)).toInt = (gF z 7 b1.toNatClampNeg).toInt := (a_wide rfl)
    have f_9 : 0 ≤ (gF z 8 b1.toNatClampNeg).toInt ∧ (gF z 8 b1.toNatClampNeg).toInt ≤ 167 := ht.2 8 _
    have g_10 : (Int32.toInt64 (gF z 8 b1.toNatClampNeg)).toInt = (gF z 8 b1.toNatClampNeg).toInt := (a_wide rfl)
    refine s_X9_in (Int32.toInt64 b2) (Int32.toInt64 (gF z 7 b1.toNatClampNeg)) (Int32.toInt64 (gF z 8 b1.toNatClampNeg)) z _ ht  (fun r3 hp_11 => ?_)
    rcases hp_11 with ⟨er3, hp_11⟩ | ⟨er3, hp_11⟩
    · subst er3
      refine ⟨fun hc => absurd hc (by decide), fun _ => ?_⟩
      refine ⟨vin rfl (by omega) (by omega), ?_⟩
      refine ⟨fun c5 => ?_, fun c5 => ?_⟩
      · skip
        have f_12 : 0 ≤ (gF z 9 b1.toNatClampNeg).toInt ∧ (gF z 9 b1.toNatClampNeg).toInt ≤ 4 := ht.2 9 _
        have i_13 := i_le (a_add rfl rfl (by omega) (by omega)) (show (168 : Int32).toInt = 168 by decide) c5
        intro K7 hK_14
        have L_15 : ∀ (n : Nat) (v6 : Int32) (z8 : St), TM z8 → Same [21] [13] z z8 → (0 ≤ v6.toInt) → (v6.toInt ≤ 4) → (b2.toInt + (gF z 9 b1.toNatClampNeg).toInt ≤ 168) → (0 ≤ b2.toInt) → (4 - v6.toInt).toNat < n → K7 v6 z8 := by
          intro n
          induction n with
          | zero => intro v6 z8 tz8 ocz8 w_16 w_17 w_18 w_19 m_21; omega
          | succ n ih_20 =>
            intro v6 z8 tz8 ocz8 w_16 w_17 w_18 w_19 m_21
            refine hK_14 v6 z8 ?_
            refine ⟨vin rfl (by omega) (by omega), ?_⟩
            refine ⟨fun c9 => ?_, fun c9 => ?_⟩
            · skip
              have f_22 : 0 ≤ (gF z8 9 b1.toNatClampNeg).toInt ∧ (gF z8 9 b1.toNatClampNeg).toInt ≤ 4 := tz8.2 9 _
              have q_23 := (ocz8.ff 9 b1.toNatClampNeg (by decide))
              have i_24 := i_le rfl rfl c9
              intro K12 hK_25
              have L_26 : ∀ (n : Nat) (v10 : Int32) (v11 : Int32), (0 ≤ v11.toInt) → (v11.toInt ≤ 20) → (v10 = 0 ∨ v10 = 1) → (20 - v11.toInt).toNat < n → K12 v10 v11 := by
                intro n
                induction n with
                | zero => intro v10 v11 w_27 w_28 w_29 m_31; omega
                | succ n ih_30 =>
                  intro v10 v11 w_27 w_28 w_29 m_31
                  refine hK_25 v10 v11 ?_
                  refine ⟨fun c13 => ?_, fun c13 => ?_⟩
                  · skip
                    have f_32 : 0 ≤ (gI z8 22).toInt ∧ (gI z8 22).toInt ≤ 20 := tz8.1 22
                    have q_33 := (ocz8.fi 22 (by decide))
                    have f_34 : 0 ≤ (gI z 22).toInt ∧ (gI z 22).toInt ≤ 20 := ht.1 22
                    have i_35 := i_le rfl rfl c13
                    have hb9 : v10 = 0 ∨ v10 = 1 := by first | assumption | omega
                    refine ⟨hb9, ?_⟩
                    rcases hb9 with e9 | e9
                    · exact hk v10 z8 tz8 ocz8 (Or.inr ⟨e9, trivial⟩)
                    · exact hk v10 z8 tz8 ocz8 (Or.inl ⟨e9, trivial⟩)
                  · skip
                    have f_36 : 0 ≤ (gI z8 22).toInt ∧ (gI z8 22).toInt ≤ 20 := tz8.1 22
                    have q_37 := (ocz8.fi 22 (by decide))
                    have f_38 : 0 ≤ (gI z 22).toInt ∧ (gI z 22).toInt ≤ 20 := ht.1 22
                    have i_39 := i_nle rfl rfl c13
                    refine ⟨vin rfl (by omega) (by omega), ?_⟩
                    intro K15 hK_40
                    refine ⟨fun c17 => ?_, fun c17 => ?_⟩
                    · skip
                      have q_41 := (ocz8.ff 14 v11.toNatClampNeg (by decide))
                      have i_42 := i_eq rfl (show (2 : Int32).toInt = 2 by decide) c17
                      refine ⟨vin rfl (by omega) (by omega), ?_⟩
                      intro K19 hK_43
                      refine ⟨fun c30 => ?_, fun c30 => ?_⟩
                      · skip
                        have q_44 := (ocz8.ff 15 v11.toNatClampNeg (by decide))
                        have i_45 := i_ne rfl rfl c30
                        refine hK_43 v10 ?_
                        refine ⟨vin rfl (by omega) (by omega), ?_⟩
                        refine ⟨fun c_46 => ?_, fun c_46 => ?_⟩
                        · skip
                          have q_55 := (ocz8.ff 16 v11.toNatClampNeg (by decide))
                          have i_56 := i_ne rfl rfl c_46
                          refine hK_40 v10 ?_
                          intro y_57 ey_57
                          have iy_57 : y_57.toInt = (v11.toInt + (1)) := by rw [ey_57]; exact (a_add rfl (show (1 : Int32).toInt = 1 by decide) (by omega) (by omega))
                          exact ih_30 v10 y_57 (by omega) (by omega) (by first | omega | assumption | decide) (by omega)
                        · skip
                          have q_58 := (ocz8.ff 16 v11.toNatClampNeg (by decide))
                          have i_59 := i_eq rfl rfl c_46
                          refine ⟨vin rfl (by omega) (by omega), ?_⟩
                          refine s_X9_isJob (gF z8 15 v11.toNatClampNeg) z8 _ tz8  (fun r_47 hp_60 => ?_)
                          rcases hp_60 with ⟨er_47, hp_60⟩ | ⟨er_47, hp_60⟩
                          · subst er_47
                            have f_61 : 0 ≤ (gI z8 12).toInt ∧ (gI z8 12).toInt ≤ 16 := tz8.1 12
                            have q_62 := (ocz8.fi 12 (by decide))
                            have f_63 : 0 ≤ (gI z 12).toInt ∧ (gI z 12).toInt ≤ 16 := ht.1 12
                            refine ⟨fun hc => absurd hc (by decide), fun _ => ?_⟩
                            refine ⟨vin rfl (by omega) (by omega), ?_⟩
                            refine ⟨vin rfl (by omega) (by omega), ?_⟩
                            refine ⟨fun c_49 => ?_, fun c_49 => ?_⟩
                            · skip
                              have q_64 := (ocz8.ff 11 (gF z8 15 v11.toNatClampNeg).toNatClampNeg (by decide))
                              have i_65 := i_eq rfl (show (0 : Int32).toInt = 0 by decide) c_49
                              refine hK_40 v10 ?_
                              intro y_66 ey_66
                              have iy_66 : y_66.toInt = (v11.toInt + (1)) := by rw [ey_66]; exact (a_add rfl (show (1 : Int32).toInt = 1 by decide) (by omega) (by omega))
                              exact ih_30 v10 y_66 (by omega) (by omega) (by first | omega | assumption | decide) (by omega)
                            · skip
                              have q_67 := (ocz8.ff 11 (gF z8 15 v11.toNatClampNeg).toNatClampNeg (by decide))
                              have i_68 := i_ne rfl (show (0 : Int32).toInt = 0 by decide) c_49
                              intro K_50 hK_69
                              intro K_52 hK_70
                              refine ⟨fun c_53 => ?_, fun c_53 => ?_⟩
                              · skip
                                have i_71 := i_eq rfl (show (0 : Int32).toInt = 0 by decide) c_53
                                refine hK_70  ?_
                                refine hK_69 ((0 : Int32)) ?_
                                refine hK_40 ((0 : Int32)) ?_
                                intro y_72 ey_72
                                have iy_72 : y_72.toInt = (v11.toInt + (1)) := by rw [ey_72]; exact (a_add rfl (show (1 : Int32).toInt = 1 by decide) (by omega) (by omega))
                                have g_73 : (0 : Int32).toInt = 0 := by decide
                                exact ih_30 ((0 : Int32)) y_72 (by omega) (by omega) (by first | omega | assumption | decide) (by omega)
                              · skip
                                have i_74 := i_ne rfl (show (0 : Int32).toInt = 0 by decide) c_53
                                refine ⟨vin rfl (by omega) (by omega), ?_⟩
                                refine ⟨vin rfl (by omega) (by omega), ?_⟩
                                refine ⟨vin rfl (by omega) (by omega), ?_⟩
                                refine ⟨vin rfl (by omega) (by omega), ?_⟩
                                refine ⟨fun c_54 => ?_, fun c_54 => ?_⟩
                                · skip
                                  have f_75 : 0 ≤ (gF z8 9 (gF z8 15 v11.toNatClampNeg).toNatClampNeg).toInt ∧ (gF z8 9 (gF z8 15 v11.toNatClampNeg).toNatClampNeg).toInt ≤ 4 := tz8.2 9 _
                                  have q_76 := (ocz8.ff 12 (gF z8 15 v11.toNatClampNeg).toNatClampNeg (by decide))
                                  have q_77 := (ocz8.ff 9 (gF z8 15 v11.toNatClampNeg).toNatClampNeg (by decide))
                                  have f_78 : 0 ≤ (gF z 9 (gF z8 15 v11.toNatClampNeg).toNatClampNeg).toInt ∧ (gF z 9 (gF z8 15 v11.toNatClampNeg).toNatClampNeg).toInt ≤ 4 := ht.2 9 _
                                  have i_79 := i_lt rfl rfl c_54
                                  refine hK_70  ?_
                                  refine hK_69 ((0 : Int32)) ?_
                                  refine hK_40 ((0 : Int32)) ?_
                                  intro y_80 ey_80
                                  have iy_80 : y_80.toInt = (v11.toInt + (1)) := by rw [ey_80]; exact (a_add rfl (show (1 : Int32).toInt = 1 by decide) (by omega) (by omega))
                                  have g_81 : (0 : Int32).toInt = 0 := by decide
                                  exact ih_30 ((0 : Int32)) y_80 (by omega) (by omega) (by first | omega | assumption | decide) (by omega)
                                · skip
                                  have f_82 : 0 ≤ (gF z8 9 (gF z8 15 v11.toNatClampNeg).toNatClampNeg).toInt ∧ (gF z8 9 (gF z8 15 v11.toNatClampNeg).toNatClampNeg).toInt ≤ 4 := tz8.2 9 _
                                  have q_83 := (ocz8.ff 12 (gF z8 15 v11.toNatClampNeg).toNatClampNeg (by decide))
                                  have q_84 := (ocz8.ff 9 (gF z8 15 v11.toNatClampNeg).toNatClampNeg (by decide))
                                  have f_85 : 0 ≤ (gF z 9 (gF z8 15 v11.toNatClampNeg).toNatClampNeg).toInt ∧ (gF z 9 (gF z8 15 v11.toNatClampNeg).toNatClampNeg).toInt ≤ 4 := ht.2 9 _
                                  have i_86 := i_nlt rfl rfl c_54
                                  refine hK_69 ((1 : Int32)) ?_
                                  refine hK_40 ((1 : Int32)) ?_
                                  intro y_87 ey_87
                                  have iy_87 : y_87.toInt = (v11.toInt + (1)) := by rw [ey_87]; exact (a_add rfl (show (1 : Int32).toInt = 1 by decide) (by omega) (by omega))
                                  have g_88 : (1 : Int32).toInt = 1 := by decide
                                  exact ih_30 ((1 : Int32)) y_87 (by omega) (by omega) (by first | omega | assumption | decide) (by omega)
                          · subst er_47
                            have f_89 : 0 ≤ (gI z8 12).toInt ∧ (gI z8 12).toInt ≤ 16 := tz8.1 12
                            have q_90 := (ocz8.fi 12 (by decide))
                            have f_91 : 0 ≤ (gI z 12).toInt ∧ (gI z 12).toInt ≤ 16 := ht.1 12
                            refine ⟨fun _ => ?_, fun hc => absurd (show ((0 : Int32)) = ((0 : Int32)) by decide) hc⟩
                            refine hK_40 v10 ?_
                            intro y_92 ey_92
                            have iy_92 : y_92.toInt = (v11.toInt + (1)) := by rw [ey_92]; exact (a_add rfl (show (1 : Int32).toInt = 1 by decide) (by omega) (by omega))
                            exact ih_30 v10 y_92 (by omega) (by omega) (by first | omega | assumption | decide) (by omega)
                      · skip
                        have q_93 := (ocz8.ff 15 v11.toNatClampNeg (by decide))
                        have i_94 := i_eq rfl rfl c30
                        refine ⟨vin rfl (by omega) (by omega), ?_⟩
                        have q_95 := (ocz8.ff 16 v11.toNatClampNeg (by decide))
                        refine s_X9_isJob (gF z8 16 v11.toNatClampNeg) z8 _ tz8  (fun r32 hp_96 => ?_)
                        rcases hp_96 with ⟨er32, hp_96⟩ | ⟨er32, hp_96⟩
                        · subst er32
                          have f_97 : 0 ≤ (gI z8 12).toInt ∧ (gI z8 12).toInt ≤ 16 := tz8.1 12
                          have q_98 := (ocz8.fi 12 (by decide))
                          have f_99 : 0 ≤ (gI z 12).toInt ∧ (gI z 12).toInt ≤ 16 := ht.1 12
                          refine ⟨fun hc => absurd hc (by decide), fun _ => ?_⟩
                          refine ⟨vin rfl (by omega) (by omega), ?_⟩
                          refine ⟨vin rfl (by omega) (by omega), ?_⟩
                          refine ⟨fun c34 => ?_, fun c34 => ?_⟩
                          · skip
                            have q_100 := (ocz8.ff 11 (gF z8 16 v11.toNatClampNeg).toNatClampNeg (by decide))
                            have i_101 := i_eq rfl (show (0 : Int32).toInt = 0 by decide) c34
                            refine hK_43 v10 ?_
                            refine ⟨vin rfl (by omega) (by omega), ?_⟩
                            refine ⟨fun c_102 => ?_, fun c_102 => ?_⟩
                            · skip
                              have i_111 := i_ne rfl rfl c_102
                              refine hK_40 v10 ?_
                              intro y_112 ey_112
                              have iy_112 : y_112.toInt = (v11.toInt + (1)) := by rw [ey_112]; exact (a_add rfl (show (1 : Int32).toInt = 1 by decide) (by omega) (by omega))
                              exact ih_30 v10 y_112 (by omega) (by omega) (by first | omega | assumption | decide) (by omega)
                            · skip
                              have i_113 := i_eq rfl rfl c_102
                              refine ⟨vin rfl (by omega) (by omega), ?_⟩
                              refine s_X9_isJob (gF z8 15 v11.toNatClampNeg) z8 _ tz8  (fun r_103 hp_114 => ?_)
                              rcases hp_114 with ⟨er_103, hp_114⟩ | ⟨er_103, hp_114⟩
                              · subst er_103
                                refine ⟨fun hc => absurd hc (by decide), fun _ => ?_⟩
                                refine ⟨vin rfl (by omega) (by omega), ?_⟩
                                refine ⟨vin rfl (by omega) (by omega), ?_⟩
                                refine ⟨fun c_105 => ?_, fun c_105 => ?_⟩
                                · skip
                                  have q_115 := (ocz8.ff 11 (gF z8 15 v11.toNatClampNeg).toNatClampNeg (by decide))
                                  have i_116 := i_eq rfl (show (0 : Int32).toInt = 0 by decide) c_105
                                  refine hK_40 v10 ?_
                                  intro y_117 ey_117
                                  have iy_117 : y_117.toInt = (v11.toInt + (1)) := by rw [ey_117]; exact (a_add rfl (show (1 : Int32).toInt = 1 by decide) (by omega) (by omega))
                                  exact ih_30 v10 y_117 (by omega) (by omega) (by first | omega | assumption | decide) (by omega)
                                · skip
                                  have q_118 := (ocz8.ff 11 (gF z8 15 v11.toNatClampNeg).toNatClampNeg (by decide))
                                  have i_119 := i_ne rfl (show (0 : Int32).toInt = 0 by decide) c_105
                                  intro K_106 hK_120
                                  intro K_108 hK_121
                                  refine ⟨fun c_109 => ?_, fun c_109 => ?_⟩
                                  · skip
                                    have i_122 := i_eq rfl (show (0 : Int32).toInt = 0 by decide) c_109
                                    refine hK_121  ?_
                                    refine hK_120 ((0 : Int32)) ?_
                                    refine hK_40 ((0 : Int32)) ?_
                                    intro y_123 ey_123
                                    have iy_123 : y_123.toInt = (v11.toInt + (1)) := by rw [ey_123]; exact (a_add rfl (show (1 : Int32).toInt = 1 by decide) (by omega) (by omega))
                                    have g_124 : (0 : Int32).toInt = 0 := by decide
                                    exact ih_30 ((0 : Int32)) y_123 (by omega) (by omega) (by first | omega | assumption | decide) (by omega)
                                  · skip
                                    have i_125 := i_ne rfl (show (0 : Int32).toInt = 0 by decide) c_109
                                    refine ⟨vin rfl (by omega) (by omega), ?_⟩
                                    refine ⟨vin rfl (by omega) (by omega), ?_⟩
                                    refine ⟨vin rfl (by omega) (by omega), ?_⟩
                                    refine ⟨vin rfl (by omega) (by omega), ?_⟩
                                    refine ⟨fun c_110 => ?_, fun c_110 => ?_⟩
                                    · skip
                                      have f_126 : 0 ≤ (gF z8 9 (gF z8 15 v11.toNatClampNeg).toNatClampNeg).toInt ∧ (gF z8 9 (gF z8 15 v11.toNatClampNeg).toNatClampNeg).toInt ≤ 4 := tz8.2 9 _
                                      have q_127 := (ocz8.ff 12 (gF z8 15 v11.toNatClampNeg).toNatClampNeg (by decide))
                                      have q_128 := (ocz8.ff 9 (gF z8 15 v11.toNatClampNeg).toNatClampNeg (by decide))
                                      have f_129 : 0 ≤ (gF z 9 (gF z8 15 v11.toNatClampNeg).toNatClampNeg).toInt ∧ (gF z 9 (gF z8 15 v11.toNatClampNeg).toNatClampNeg).toInt ≤ 4 := ht.2 9 _
                                      have i_130 := i_lt rfl rfl c_110
                                      refine hK_121  ?_
                                      refine hK_120 ((0 : Int32)) ?_
                                      refine hK_40 ((0 : Int32)) ?_
                                      intro y_131 ey_131
                                      have iy_131 : y_131.toInt = (v11.toInt + (1)) := by rw [ey_131]; exact (a_add rfl (show (1 : Int32).toInt = 1 by decide) (by omega) (by omega))
                                      have g_132 : (0 : Int32).toInt = 0 := by decide
                                      exact ih_30 ((0 : Int32)) y_131 (by omega) (by omega) (by first | omega | assumption | decide) (by omega)
                                    · skip
                                      have f_133 : 0 ≤ (gF z8 9 (gF z8 15 v11.toNatClampNeg).toNatClampNeg).toInt ∧ (gF z8 9 (gF z8 15 v11.toNatClampNeg).toNatClampNeg).toInt ≤ 4 := tz8.2 9 _
                                      have q_134 := (ocz8.ff 12 (gF z8 15 v11.toNatClampNeg).toNatClampNeg (by decide))
                                      have q_135 := (ocz8.ff 9 (gF z8 15 v11.toNatClampNeg).toNatClampNeg (by decide))
                                      have f_136 : 0 ≤ (gF z 9 (gF z8 15 v11.toNatClampNeg).toNatClampNeg).toInt ∧ (gF z 9 (gF z8 15 v11.toNatClampNeg).toNatClampNeg).toInt ≤ 4 := ht.2 9 _
                                      have i_137 := i_nlt rfl rfl c_110
                                      refine hK_120 ((1 : Int32)) ?_
                                      refine hK_40 ((1 : Int32)) ?_
                                      intro y_138 ey_138
                                      have iy_138 : y_138.toInt = (v11.toInt + (1)) := by rw [ey_138]; exact (a_add rfl (show (1 : Int32).toInt = 1 by decide) (by omega) (by omega))
                                      have g_139 : (1 : Int32).toInt = 1 := by decide
                                      exact ih_30 ((1 : Int32)) y_138 (by omega) (by omega) (by first | omega | assumption | decide) (by omega)
                              · subst er_103
                                refine ⟨fun _ => ?_, fun hc => absurd (show ((0 : Int32)) = ((0 : Int32)) by decide) hc⟩
                                refine hK_40 v10 ?_
                                intro y_140 ey_140
                                have iy_140 : y_140.toInt = (v11.toInt + (1)) := by rw [ey_140]; exact (a_add rfl (show (1 : Int32).toInt = 1 by decide) (by omega) (by omega))
                                exact ih_30 v10 y_140 (by omega) (by omega) (by first | omega | assumption | decide) (by omega)
                          · skip
                            have q_141 := (ocz8.ff 11 (gF z8 16 v11.toNatClampNeg).toNatClampNeg (by decide))
                            have i_142 := i_ne rfl (show (0 : Int32).toInt = 0 by decide) c34
                            intro K36 hK_143
                            intro K37 hK_144
                            refine ⟨fun c38 => ?_, fun c38 => ?_⟩
                            · skip
                              have i_145 := i_eq rfl (show (0 : Int32).toInt = 0 by decide) c38
                              refine hK_144  ?_
                              refine hK_143 ((0 : Int32)) ?_
                              refine hK_43 ((0 : Int32)) ?_
                              refine ⟨vin rfl (by omega) (by omega), ?_⟩
                              refine ⟨fun c_146 => ?_, fun c_146 => ?_⟩
                              · skip
                                have i_155 := i_ne rfl rfl c_146
                                refine hK_40 ((0 : Int32)) ?_
                                intro y_156 ey_156
                                have iy_156 : y_156.toInt = (v11.toInt + (1)) := by rw [ey_156]; exact (a_add rfl (show (1 : Int32).toInt = 1 by decide) (by omega) (by omega))
                                have g_157 : (0 : Int32).toInt = 0 := by decide
                                exact ih_30 ((0 : Int32)) y_156 (by omega) (by omega) (by first | omega | assumption | decide) (by omega)
                              · skip
                                have i_158 := i_eq rfl rfl c_146
                                refine ⟨vin rfl (by omega) (by omega), ?_⟩
                                refine s_X9_isJob (gF z8 15 v11.toNatClampNeg) z8 _ tz8  (fun r_147 hp_159 => ?_)
                                rcases hp_159 with ⟨er_147, hp_159⟩ | ⟨er_147, hp_159⟩
                                · subst er_147
                                  refine ⟨fun hc => absurd hc (by decide), fun _ => ?_⟩
                                  refine ⟨vin rfl (by omega) (by omega), ?_⟩
                                  refine ⟨vin rfl (by omega) (by omega), ?_⟩
                                  refine ⟨fun c_149 => ?_, fun c_149 => ?_⟩
                                  · skip
                                    have q_160 := (ocz8.ff 11 (gF z8 15 v11.toNatClampNeg).toNatClampNeg (by decide))
                                    have i_161 := i_eq rfl (show (0 : Int32).toInt = 0 by decide) c_149
                                    refine hK_40 ((0 : Int32)) ?_
                                    intro y_162 ey_162
                                    have iy_162 : y_162.toInt = (v11.toInt + (1)) := by rw [ey_162]; exact (a_add rfl (show (1 : Int32).toInt = 1 by decide) (by omega) (by omega))
                                    have g_163 : (0 : Int32).toInt = 0 := by decide
                                    exact ih_30 ((0 : Int32)) y_162 (by omega) (by omega) (by first | omega | assumption | decide) (by omega)
                                  · skip
                                    have q_164 := (ocz8.ff 11 (gF z8 15 v11.toNatClampNeg).toNatClampNeg (by decide))
                                    have i_165 := i_ne rfl (show (0 : Int32).toInt = 0 by decide) c_149
                                    intro K_150 hK_166
                                    intro K_152 hK_167
                                    refine ⟨fun _ => ?_, fun hc => absurd (show ((0 : Int32)) = ((0 : Int32)) by decide) hc⟩
                                    refine hK_167  ?_
                                    refine hK_166 ((0 : Int32)) ?_
                                    refine hK_40 ((0 : Int32)) ?_
                                    intro y_168 ey_168
                                    have iy_168 : y_168.toInt = (v11.toInt + (1)) := by rw [ey_168]; exact (a_add rfl (show (1 : Int32).toInt = 1 by decide) (by omega) (by omega))
                                    have g_169 : (0 : Int32).toInt = 0 := by decide
                                    exact ih_30 ((0 : Int32)) y_168 (by omega) (by omega) (by first | omega | assumption | decide) (by omega)
                                · subst er_147
                                  refine ⟨fun _ => ?_, fun hc => absurd (show ((0 : Int32)) = ((0 : Int32)) by decide) hc⟩
                                  refine hK_40 ((0 : Int32)) ?_
                                  intro y_170 ey_170
                                  have iy_170 : y_170.toInt = (v11.toInt + (1)) := by rw [ey_170]; exact (a_add rfl (show (1 : Int32).toInt = 1 by decide) (by omega) (by omega))
                                  have g_171 : (0 : Int32).toInt = 0 := by decide
                                  exact ih_30 ((0 : Int32)) y_170 (by omega) (by omega) (by first | omega | assumption | decide) (by omega)
                            · skip
                              have i_172 := i_ne rfl (show (0 : Int32).toInt = 0 by decide) c38
                              refine ⟨vin rfl (by omega) (by omega), ?_⟩
                              refine ⟨vin rfl (by omega) (by omega), ?_⟩
                              refine ⟨vin rfl (by omega) (by omega), ?_⟩
                              refine ⟨fun c39 => ?_, fun c39 => ?_⟩
                              · skip
                                have q_173 := (ocz8.ff 12 (gF z8 16 v11.toNatClampNeg).toNatClampNeg (by decide))
                                have i_174 := i_lt rfl (a_add rfl rfl (by omega) (by omega)) c39
                                refine hK_144  ?_
                                refine hK_143 ((0 : Int32)) ?_
                                refine hK_43 ((0 : Int32)) ?_
                                refine ⟨vin rfl (by omega) (by omega), ?_⟩
                                refine ⟨fun c_175 => ?_, fun c_175 => ?_⟩
                                · skip
                                  have i_184 := i_ne rfl rfl c_175
                                  refine hK_40 ((0 : Int32)) ?_
                                  intro y_185 ey_185
                                  have iy_185 : y_185.toInt = (v11.toInt + (1)) := by rw [ey_185]; exact (a_add rfl (show (1 : Int32).toInt = 1 by decide) (by omega) (by omega))
                                  have g_186 : (0 : Int32).toInt = 0 := by decide
                                  exact ih_30 ((0 : Int32)) y_185 (by omega) (by omega) (by first | omega | assumption | decide) (by omega)
                                · skip
                                  have i_187 := i_eq rfl rfl c_175
                                  refine ⟨vin rfl (by omega) (by omega), ?_⟩
                                  refine s_X9_isJob (gF z8 15 v11.toNatClampNeg) z8 _ tz8  (fun r_176 hp_188 => ?_)
                                  rcases hp_188 with ⟨er_176, hp_188⟩ | ⟨er_176, hp_188⟩
                                  · subst er_176
                                    refine ⟨fun hc => absurd hc (by decide), fun _ => ?_⟩
                                    refine ⟨vin rfl (by omega) (by omega), ?_⟩
                                    refine ⟨vin rfl (by omega) (by omega), ?_⟩
                                    refine ⟨fun c_178 => ?_, fun c_178 => ?_⟩
                                    · skip
                                      have q_189 := (ocz8.ff 11 (gF z8 15 v11.toNatClampNeg).toNatClampNeg (by decide))
                                      have i_190 := i_eq rfl (show (0 : Int32).toInt = 0 by decide) c_178
                                      refine hK_40 ((0 : Int32)) ?_
                                      intro y_191 ey_191
                                      have iy_191 : y_191.toInt = (v11.toInt + (1)) := by rw [ey_191]; exact (a_add rfl (show (1 : Int32).toInt = 1 by decide) (by omega) (by omega))
                                      have g_192 : (0 : Int32).toInt = 0 := by decide
                                      exact ih_30 ((0 : Int32)) y_191 (by omega) (by omega) (by first | omega | assumption | decide) (by omega)
                                    · skip
                                      have q_193 := (ocz8.ff 11 (gF z8 15 v11.toNatClampNeg).toNatClampNeg (by decide))
                                      have i_194 := i_ne rfl (show (0 : Int32).toInt = 0 by decide) c_178
                                      intro K_179 hK_195
                                      intro K_181 hK_196
                                      refine ⟨fun _ => ?_, fun hc => absurd (show ((0 : Int32)) = ((0 : Int32)) by decide) hc⟩
                                      refine hK_196  ?_
                                      refine hK_195 ((0 : Int32)) ?_
                                      refine hK_40 ((0 : Int32)) ?_
                                      intro y_197 ey_197
                                      have iy_197 : y_197.toInt = (v11.toInt + (1)) := by rw [ey_197]; exact (a_add rfl (show (1 : Int32).toInt = 1 by decide) (by omega) (by omega))
                                      have g_198 : (0 : Int32).toInt = 0 := by decide
                                      exact ih_30 ((0 : Int32)) y_197 (by omega) (by omega) (by first | omega | assumption | decide) (by omega)
                                  · subst er_176
                                    refine ⟨fun _ => ?_, fun hc => absurd (show ((0 : Int32)) = ((0 : Int32)) by decide) hc⟩
                                    refine hK_40 ((0 : Int32)) ?_
                                    intro y_199 ey_199
                                    have iy_199 : y_199.toInt = (v11.toInt + (1)) := by rw [ey_199]; exact (a_add rfl (show (1 : Int32).toInt = 1 by decide) (by omega) (by omega))
                                    have g_200 : (0 : Int32).toInt = 0 := by decide
                                    exact ih_30 ((0 : Int32)) y_199 (by omega) (by omega) (by first | omega | assumption | decide) (by omega)
                              · skip
                                have q_201 := (ocz8.ff 12 (gF z8 16 v11.toNatClampNeg).toNatClampNeg (by decide))
                                have i_202 := i_nlt rfl (a_add rfl rfl (by omega) (by omega)) c39
                                refine hK_143 ((1 : Int32)) ?_
                                refine hK_43 ((1 : Int32)) ?_
                                refine ⟨vin rfl (by omega) (by omega), ?_⟩
                                refine ⟨fun c_203 => ?_, fun c_203 => ?_⟩
                                · skip
                                  have i_212 := i_ne rfl rfl c_203
                                  refine hK_40 ((1 : Int32)) ?_
                                  intro y_213 ey_213
                                  have iy_213 : y_213.toInt = (v11.toInt + (1)) := by rw [ey_213]; exact (a_add rfl (show (1 : Int32).toInt = 1 by decide) (by omega) (by omega))
                                  have g_214 : (1 : Int32).toInt = 1 := by decide
                                  exact ih_30 ((1 : Int32)) y_213 (by omega) (by omega) (by first | omega | assumption | decide) (by omega)
                                · skip
                                  have i_215 := i_eq rfl rfl c_203
                                  refine ⟨vin rfl (by omega) (by omega), ?_⟩
                                  refine s_X9_isJob (gF z8 15 v11.toNatClampNeg) z8 _ tz8  (fun r_204 hp_216 => ?_)
                                  rcases hp_216 with ⟨er_204, hp_216⟩ | ⟨er_204, hp_216⟩
                                  · subst er_204
                                    refine ⟨fun hc => absurd hc (by decide), fun _ => ?_⟩
                                    refine ⟨vin rfl (by omega) (by omega), ?_⟩
                                    refine ⟨vin rfl (by omega) (by omega), ?_⟩
                                    refine ⟨fun c_206 => ?_, fun c_206 => ?_⟩
                                    · skip
                                      have q_217 := (ocz8.ff 11 (gF z8 15 v11.toNatClampNeg).toNatClampNeg (by decide))
                                      have i_218 := i_eq rfl (show (0 : Int32).toInt = 0 by decide) c_206
                                      refine hK_40 ((1 : Int32)) ?_
                                      intro y_219 ey_219
                                      have iy_219 : y_219.toInt = (v11.toInt + (1)) := by rw [ey_219]; exact (a_add rfl (show (1 : Int32).toInt = 1 by decide) (by omega) (by omega))
                                      have g_220 : (1 : Int32).toInt = 1 := by decide
                                      exact ih_30 ((1 : Int32)) y_219 (by omega) (by omega) (by first | omega | assumption | decide) (by omega)
                                    · skip
                                      have q_221 := (ocz8.ff 11 (gF z8 15 v11.toNatClampNeg).toNatClampNeg (by decide))
                                      have i_222 := i_ne rfl (show (0 : Int32).toInt = 0 by decide) c_206
                                      intro K_207 hK_223
                                      intro K_209 hK_224
                                      refine ⟨fun hc => absurd hc (by decide), fun _ => ?_⟩
                                      refine ⟨vin rfl (by omega) (by omega), ?_⟩
                                      refine ⟨vin rfl (by omega) (by omega), ?_⟩
                                      refine ⟨vin rfl (by omega) (by omega), ?_⟩
                                      refine ⟨vin rfl (by omega) (by omega), ?_⟩
                                      refine ⟨fun c_211 => ?_, fun c_211 => ?_⟩
                                      · skip
                                        have f_225 : 0 ≤ (gF z8 9 (gF z8 15 v11.toNatClampNeg).toNatClampNeg).toInt ∧ (gF z8 9 (gF z8 15 v11.toNatClampNeg).toNatClampNeg).toInt ≤ 4 := tz8.2 9 _
                                        have q_226 := (ocz8.ff 12 (gF z8 15 v11.toNatClampNeg).toNatClampNeg (by decide))
                                        have q_227 := (ocz8.ff 9 (gF z8 15 v11.toNatClampNeg).toNatClampNeg (by decide))
                                        have f_228 : 0 ≤ (gF z 9 (gF z8 15 v11.toNatClampNeg).toNatClampNeg).toInt ∧ (gF z 9 (gF z8 15 v11.toNatClampNeg).toNatClampNeg).toInt ≤ 4 := ht.2 9 _
                                        have i_229 := i_lt rfl rfl c_211
                                        refine hK_224  ?_
                                        refine hK_223 ((0 : Int32)) ?_
                                        refine hK_40 ((0 : Int32)) ?_
                                        intro y_230 ey_230
                                        have iy_230 : y_230.toInt = (v11.toInt + (1)) := by rw [ey_230]; exact (a_add rfl (show (1 : Int32).toInt = 1 by decide) (by omega) (by omega))
                                        have g_231 : (0 : Int32).toInt = 0 := by decide
                                        exact ih_30 ((0 : Int32)) y_230 (by omega) (by omega) (by first | omega | assumption | decide) (by omega)
                                      · skip
                                        have f_232 : 0 ≤ (gF z8 9 (gF z8 15 v11.toNatClampNeg).toNatClampNeg).toInt ∧ (gF z8 9 (gF z8 15 v11.toNatClampNeg).toNatClampNeg).toInt ≤ 4 := tz8.2 9 _
                                        have q_233 := (ocz8.ff 12 (gF z8 15 v11.toNatClampNeg).toNatClampNeg (by decide))
                                        have q_234 := (ocz8.ff 9 (gF z8 15 v11.toNatClampNeg).toNatClampNeg (by decide))
                                        have f_235 : 0 ≤ (gF z 9 (gF z8 15 v11.toNatClampNeg).toNatClampNeg).toInt ∧ (gF z 9 (gF z8 15 v11.toNatClampNeg).toNatClampNeg).toInt ≤ 4 := ht.2 9 _
                                        have i_236 := i_nlt rfl rfl c_211
                                        refine hK_223 ((1 : Int32)) ?_
                                        refine hK_40 ((1 : Int32)) ?_
                                        intro y_237 ey_237
                                        have iy_237 : y_237.toInt = (v11.toInt + (1)) := by rw [ey_237]; exact (a_add rfl (show (1 : Int32).toInt = 1 by decide) (by omega) (by omega))
                                        have g_238 : (1 : Int32).toInt = 1 := by decide
                                        exact ih_30 ((1 : Int32)) y_237 (by omega) (by omega) (by first | omega | assumption | decide) (by omega)
                                  · subst er_204
                                    refine ⟨fun _ => ?_, fun hc => absurd (show ((0 : Int32)) = ((0 : Int32)) by decide) hc⟩
                                    refine hK_40 ((1 : Int32)) ?_
                                    intro y_239 ey_239
                                    have iy_239 : y_239.toInt = (v11.toInt + (1)) := by rw [ey_239]; exact (a_add rfl (show (1 : Int32).toInt = 1 by decide) (by omega) (by omega))
                                    have g_240 : (1 : Int32).toInt = 1 := by decide
                                    exact ih_30 ((1 : Int32)) y_239 (by omega) (by omega) (by first | omega | assumption | decide) (by omega)
                        · subst er32
                          have f_241 : 0 ≤ (gI z8 12).toInt ∧ (gI z8 12).toInt ≤ 16 := tz8.1 12
                          have q_242 := (ocz8.fi 12 (by decide))
                          have f_243 : 0 ≤ (gI z 12).toInt ∧ (gI z 12).toInt ≤ 16 := ht.1 12
                          refine ⟨fun _ => ?_, fun hc => absurd (show ((0 : Int32)) = ((0 : Int32)) by decide) hc⟩
                          refine hK_43 v10 ?_
                          refine ⟨vin rfl (by omega) (by omega), ?_⟩
                          refine ⟨fun c_244 => ?_, fun c_244 => ?_⟩
                          · skip
                            have i_253 := i_ne rfl rfl c_244
                            refine hK_40 v10 ?_
                            intro y_254 ey_254
                            have iy_254 : y_254.toInt = (v11.toInt + (1)) := by rw [ey_254]; exact (a_add rfl (show (1 : Int32).toInt = 1 by decide) (by omega) (by omega))
                            exact ih_30 v10 y_254 (by omega) (by omega) (by first | omega | assumption | decide) (by omega)
                          · skip
                            have i_255 := i_eq rfl rfl c_244
                            refine ⟨vin rfl (by omega) (by omega), ?_⟩
                            refine s_X9_isJob (gF z8 15 v11.toNatClampNeg) z8 _ tz8  (fun r_245 hp_256 => ?_)
                            rcases hp_256 with ⟨er_245, hp_256⟩ | ⟨er_245, hp_256⟩
                            · subst er_245
                              refine ⟨fun hc => absurd hc (by decide), fun _ => ?_⟩
                              refine ⟨vin rfl (by omega) (by omega), ?_⟩
                              refine ⟨vin rfl (by omega) (by omega), ?_⟩
                              refine ⟨fun c_247 => ?_, fun c_247 => ?_⟩
                              · skip
                                have q_257 := (ocz8.ff 11 (gF z8 15 v11.toNatClampNeg).toNatClampNeg (by decide))
                                have i_258 := i_eq rfl (show (0 : Int32).toInt = 0 by decide) c_247
                                refine hK_40 v10 ?_
                                intro y_259 ey_259
                                have iy_259 : y_259.toInt = (v11.toInt + (1)) := by rw [ey_259]; exact (a_add rfl (show (1 : Int32).toInt = 1 by decide) (by omega) (by omega))
                                exact ih_30 v10 y_259 (by omega) (by omega) (by first | omega | assumption | decide) (by omega)
                              · skip
                                have q_260 := (ocz8.ff 11 (gF z8 15 v11.toNatClampNeg).toNatClampNeg (by decide))
                                have i_261 := i_ne rfl (show (0 : Int32).toInt = 0 by decide) c_247
                                intro K_248 hK_262
                                intro K_250 hK_263
                                refine ⟨fun c_251 => ?_, fun c_251 => ?_⟩
                                · skip
                                  have i_264 := i_eq rfl (show (0 : Int32).toInt = 0 by decide) c_251
                                  refine hK_263  ?_
                                  refine hK_262 ((0 : Int32)) ?_
                                  refine hK_40 ((0 : Int32)) ?_
                                  intro y_265 ey_265
                                  have iy_265 : y_265.toInt = (v11.toInt + (1)) := by rw [ey_265]; exact (a_add rfl (show (1 : Int32).toInt = 1 by decide) (by omega) (by omega))
                                  have g_266 : (0 : Int32).toInt = 0 := by decide
                                  exact ih_30 ((0 : Int32)) y_265 (by omega) (by omega) (by first | omega | assumption | decide) (by omega)
                                · skip
                                  have i_267 := i_ne rfl (show (0 : Int32).toInt = 0 by decide) c_251
                                  refine ⟨vin rfl (by omega) (by omega), ?_⟩
                                  refine ⟨vin rfl (by omega) (by omega), ?_⟩
                                  refine ⟨vin rfl (by omega) (by omega), ?_⟩
                                  refine ⟨vin rfl (by omega) (by omega), ?_⟩
                                  refine ⟨fun c_252 => ?_, fun c_252 => ?_⟩
                                  · skip
                                    have f_268 : 0 ≤ (gF z8 9 (gF z8 15 v11.toNatClampNeg).toNatClampNeg).toInt ∧ (gF z8 9 (gF z8 15 v11.toNatClampNeg).toNatClampNeg).toInt ≤ 4 := tz8.2 9 _
                                    have q_269 := (ocz8.ff 12 (gF z8 15 v11.toNatClampNeg).toNatClampNeg (by decide))
                                    have q_270 := (ocz8.ff 9 (gF z8 15 v11.toNatClampNeg).toNatClampNeg (by decide))
                                    have f_271 : 0 ≤ (gF z 9 (gF z8 15 v11.toNatClampNeg).toNatClampNeg).toInt ∧ (gF z 9 (gF z8 15 v11.toNatClampNeg).toNatClampNeg).toInt ≤ 4 := ht.2 9 _
                                    have i_272 := i_lt rfl rfl c_252
                                    refine hK_263  ?_
                                    refine hK_262 ((0 : Int32)) ?_
                                    refine hK_40 ((0 : Int32)) ?_
                                    intro y_273 ey_273
                                    have iy_273 : y_273.toInt = (v11.toInt + (1)) := by rw [ey_273]; exact (a_add rfl (show (1 : Int32).toInt = 1 by decide) (by omega) (by omega))
                                    have g_274 : (0 : Int32).toInt = 0 := by decide
                                    exact ih_30 ((0 : Int32)) y_273 (by omega) (by omega) (by first | omega | assumption | decide) (by omega)
                                  · skip
                                    have f_275 : 0 ≤ (gF z8 9 (gF z8 15 v11.toNatClampNeg).toNatClampNeg).toInt ∧ (gF z8 9 (gF z8 15 v11.toNatClampNeg).toNatClampNeg).toInt ≤ 4 := tz8.2 9 _
                                    have q_276 := (ocz8.ff 12 (gF z8 15 v11.toNatClampNeg).toNatClampNeg (by decide))
                                    have q_277 := (ocz8.ff 9 (gF z8 15 v11.toNatClampNeg).toNatClampNeg (by decide))
                                    have f_278 : 0 ≤ (gF z 9 (gF z8 15 v11.toNatClampNeg).toNatClampNeg).toInt ∧ (gF z 9 (gF z8 15 v11.toNatClampNeg).toNatClampNeg).toInt ≤ 4 := ht.2 9 _
                                    have i_279 := i_nlt rfl rfl c_252
                                    refine hK_262 ((1 : Int32)) ?_
                                    refine hK_40 ((1 : Int32)) ?_
                                    intro y_280 ey_280
                                    have iy_280 : y_280.toInt = (v11.toInt + (1)) := by rw [ey_280]; exact (a_add rfl (show (1 : Int32).toInt = 1 by decide) (by omega) (by omega))
                                    have g_281 : (1 : Int32).toInt = 1 := by decide
                                    exact ih_30 ((1 : Int32)) y_280 (by omega) (by omega) (by first | omega | assumption | decide) (by omega)
                            · subst er_245
                              refine ⟨fun _ => ?_, fun hc => absurd (show ((0 : Int32)) = ((0 : Int32)) by decide) hc⟩
                              refine hK_40 v10 ?_
                              intro y_282 ey_282
                              have iy_282 : y_282.toInt = (v11.toInt + (1)) := by rw [ey_282]; exact (a_add rfl (show (1 : Int32).toInt = 1 by decide) (by omega) (by omega))
                              exact ih_30 v10 y_282 (by omega) (by omega) (by first | omega | assumption | decide) (by omega)
                    · skip
                      have q_283 := (ocz8.ff 14 v11.toNatClampNeg (by decide))
                      have i_284 := i_ne rfl (show (2 : Int32).toInt = 2 by decide) c17
                      refine hK_40 v10 ?_
                      intro y_285 ey_285
                      have iy_285 : y_285.toInt = (v11.toInt + (1)) := by rw [ey_285]; exact (a_add rfl (show (1 : Int32).toInt = 1 by decide) (by omega) (by omega))
                      exact ih_30 v10 y_285 (by omega) (by omega) (by first | omega | assumption | decide) (by omega)
              have g_286 : (1 : Int32).toInt = 1 := by decide
              have g_287 : (0 : Int32).toInt = 0 := by decide
              exact L_26 ((20 - (0 : Int32).toInt).toNat + 1) ((1 : Int32)) ((0 : Int32)) (by omega) (by omega) (by first | omega | assumption | decide) (by omega)
            · skip
              have f_288 : 0 ≤ (gF z8 9 b1.toNatClampNeg).toInt ∧ (gF z8 9 b1.toNatClampNeg).toInt ≤ 4 := tz8.2 9 _
              have q_289 := (ocz8.ff 9 b1.toNatClampNeg (by decide))
              have i_290 := i_nle rfl rfl c9
              intro x40 ex40
              have ix40 : x40.toInt = (b2.toInt + v6.toInt) := by rw [ex40]; exact (a_add rfl rfl (by omega) (by omega))
              refine ⟨vin rfl (by omega) (by omega), ?_⟩
              have f_291 : 0 ≤ (gF z8 6 b1.toNatClampNeg).toInt ∧ (gF z8 6 b1.toNatClampNeg).toInt ≤ 3 := tz8.2 6 _
              have q_292 := (ocz8.ff 6 b1.toNatClampNeg (by decide))
              have f_293 : 0 ≤ (gF z 6 b1.toNatClampNeg).toInt ∧ (gF z 6 b1.toNatClampNeg).toInt ≤ 3 := ht.2 6 _
              refine s_X9_isQuiet (gF z8 6 b1.toNatClampNeg) x40 z8 _ tz8  (fun r42 hp_294 => ?_)
              rcases hp_294 with ⟨er42, hp_294⟩ | ⟨er42, hp_294⟩
              · subst er42
                refine ⟨fun _ => ?_, fun hc => absurd hc (by decide)⟩
                have g_295 : (0 : Int32).toInt = 0 := by decide
                exact hk ((0 : Int32)) z8 tz8 ocz8 (Or.inr ⟨rfl, trivial⟩)
              · subst er42
                refine ⟨fun hc => absurd hc (by decide), fun _ => ?_⟩
                refine s_X9_isDear x40 z8 _ tz8 (by omega) (fun r45 z44 tz44 o_297 hp_296 => ?_)
                have oz44 : Same [21] [13] z z44 := ocz8.tr o_297 (by decide) (by decide)
                rcases hp_296 with ⟨er45, hp_296⟩ | ⟨er45, hp_296⟩
                · subst er45
                  refine ⟨fun _ => ?_, fun hc => absurd hc (by decide)⟩
                  have g_298 : (0 : Int32).toInt = 0 := by decide
                  exact hk ((0 : Int32)) z44 tz44 oz44 (Or.inr ⟨rfl, trivial⟩)
                · subst er45
                  refine ⟨fun hc => absurd hc (by decide), fun _ => ?_⟩
                  refine ⟨vin rfl (by omega) (by omega), ?_⟩
                  have f_299 : 0 ≤ (gF z44 6 b1.toNatClampNeg).toInt ∧ (gF z44 6 b1.toNatClampNeg).toInt ≤ 3 := tz44.2 6 _
                  have q_300 := ((o_297.ff 6 b1.toNatClampNeg (by decide))).trans (ocz8.ff 6 b1.toNatClampNeg (by decide))
                  refine s_X9_loadOf (gF z44 6 b1.toNatClampNeg) x40 b1 z44 _ tz44 (by omega) (by omega) (fun r48 hp_301 => ?_)
                  refine ⟨vin (a_add (a_mul (show (4 : Int32).toInt = 4 by decide) rfl (by omega) (by omega)) rfl (by omega) (by omega)) (by omega) (by omega), ?_⟩
                  refine ⟨vin rfl (by omega) (by omega), ?_⟩
                  refine ⟨vin rfl (by omega) (by omega), ?_⟩
                  refine ⟨fun c49 => ?_, fun c49 => ?_⟩
                  · skip
                    have q_302 := ((o_297.ff 10 (((4 : Int32) * b1) + v6).toNatClampNeg (by decide))).trans (ocz8.ff 10 (((4 : Int32) * b1) + v6).toNatClampNeg (by decide))
                    have q_303 := ((o_297.ff 4 (gF z44 6 b1.toNatClampNeg).toNatClampNeg (by decide))).trans (ocz8.ff 4 (gF z44 6 b1.toNatClampNeg).toNatClampNeg (by decide))
                    have i_304 := i_le rfl rfl c49
                    refine ⟨vin (a_add (a_mul (show (4 : Int32).toInt = 4 by decide) rfl (by omega) (by omega)) rfl (by omega) (by omega)) (by omega) (by omega), ?_⟩
                    intro x50 ex50
                    have ix50 : x50.toInt = (gF z44 10 (((4 : Int32) * b1) + v6).toNatClampNeg).toInt := by rw [ex50]
                    intro K53 hK_305
                    have L_306 : ∀ (n : Nat) (v51 : Int32) (v52 : Int32), (0 ≤ v52.toInt) → (v52.toInt ≤ 4) → (4 - v52.toInt).toNat < n → K53 v51 v52 := by
                      intro n
                      induction n with
                      | zero => intro v51 v52 w_307 w_308 m_310; omega
                      | succ n ih_309 =>
                        intro v51 v52 w_307 w_308 m_310
                        refine hK_305 v51 v52 ?_
                        refine ⟨fun c54 => ?_, fun c54 => ?_⟩
                        · skip
                          have f_311 : 0 ≤ (gI z44 8).toInt ∧ (gI z44 8).toInt ≤ 4 := tz44.1 8
                          have q_312 := ((o_297.fi 8 (by decide))).trans (ocz8.fi 8 (by decide))
                          have f_313 : 0 ≤ (gI z 8).toInt ∧ (gI z 8).toInt ≤ 4 := ht.1 8
                          have i_314 := i_le rfl rfl c54
                          refine ⟨fun c55 => ?_, fun c55 => ?_⟩
                          · skip
                            have q_315 := ((o_297.fi 11 (by decide))).trans (ocz8.fi 11 (by decide))
                            have i_316 := i_le rfl rfl c55
                            intro x56 ex56
                            have ix56 : x56.toInt = (v6.toInt + (1)) := by rw [ex56]; exact (a_add rfl (show (1 : Int32).toInt = 1 by decide) (by omega) (by omega))
                            exact ih_20 x56 z44 tz44 oz44 (by omega) (by omega) (by omega) (by omega) (by omega)
                          · skip
                            have q_317 := ((o_297.fi 11 (by decide))).trans (ocz8.fi 11 (by decide))
                            have i_318 := i_nle rfl rfl c55
                            have g_319 : (0 : Int32).toInt = 0 := by decide
                            exact hk ((0 : Int32)) z44 tz44 oz44 (Or.inr ⟨rfl, trivial⟩)
                        · skip
                          have f_320 : 0 ≤ (gI z44 8).toInt ∧ (gI z44 8).toInt ≤ 4 := tz44.1 8
                          have q_321 := ((o_297.fi 8 (by decide))).trans (ocz8.fi 8 (by decide))
                          have f_322 : 0 ≤ (gI z 8).toInt ∧ (gI z 8).toInt ≤ 4 := ht.1 8
                          have i_323 := i_nle rfl rfl c54
                          refine s_X9_loadOf v52 x40 b1 z44 _ tz44 (by omega) (by omega) (fun r58 hp_324 => ?_)
                          intro x59 ex59
                          have ix59 : x59.toInt = (v51 + r58).toInt := by rw [ex59]
                          intro x60 ex60
                          have ix60 : x60.toInt = (v52.toInt + (1)) := by rw [ex60]; exact (a_add rfl (show (1 : Int32).toInt = 1 by decide) (by omega) (by omega))
                          exact ih_309 x59 x60 (by omega) (by omega) (by omega)
                    have g_325 : (0 : Int32).toInt = 0 := by decide
                    exact L_306 ((4 - (0 : Int32).toInt).toNat + 1) x50 ((0 : Int32)) (by omega) (by omega) (by omega)
                  · skip
                    have q_326 := ((o_297.ff 10 (((4 : Int32) * b1) + v6).toNatClampNeg (by decide))).trans (ocz8.ff 10 (((4 : Int32) * b1) + v6).toNatClampNeg (by decide))
                    have q_327 := ((o_297.ff 4 (gF z44 6 b1.toNatClampNeg).toNatClampNeg (by decide))).trans (ocz8.ff 4 (gF z44 6 b1.toNatClampNeg).toNatClampNeg (by decide))
                    have i_328 := i_nle rfl rfl c49
                    have g_329 : (0 : Int32).toInt = 0 := by decide
                    exact hk ((0 : Int32)) z44 tz44 oz44 (Or.inr ⟨rfl, trivial⟩)
        have g_330 : (0 : Int32).toInt = 0 := by decide
        exact L_15 ((4 - (0 : Int32).toInt).toNat + 1) ((0 : Int32)) z ht (Same.rf (z := z)) (by omega) (by omega) (by omega) (by omega) (by omega)
      · skip
        have f_331 : 0 ≤ (gF z 9 b1.toNatClampNeg).toInt ∧ (gF z 9 b1.toNatClampNeg).toInt ≤ 4 := ht.2 9 _
        have i_332 := i_nle (a_add rfl rfl (by omega) (by omega)) (show (168 : Int32).toInt = 168 by decide) c5
        have g_333 : (0 : Int32).toInt = 0 := by decide
        exact hk ((0 : Int32)) z ht (Same.rf (z := z)) (Or.inr ⟨rfl, trivial⟩)
    · subst er3
      refine ⟨fun _ => ?_, fun hc => absurd (show ((0 : Int32)) = ((0 : Int32)) by decide) hc⟩
      have g_334 : (0 : Int32).toInt = 0 := by decide
      exact hk ((0 : Int32)) z ht (Same.rf (z := z)) (Or.inr ⟨rfl, trivial⟩)

set_option maxHeartbeats 2000000 in
theorem s_X9_may (b1 : Int32) (b2 : Int32) (z : St) (P : Int32 → St → Prop) (ht : TM z)  (hk : ∀ (r : Int32) (z2 : St), TM z2 → Same [0, 21] [13] z z2 → (True) → P r z2) : wp_X9_may b1 b2 z P := by
  unfold wp_X9_may
  intro z1 ez1
  have tz1 : TM z1 := by rw [ez1]; exact Ty_wI ht trivial
  have oz1 : Same [0, 21] [13] z z1 := (Same.rf (z := z)).i (by decide) ez1
  refine s_X9_isJob b1 z1 _ tz1  (fun r3 hp_1 => ?_)
  rcases hp_1 with ⟨er3, hp_1⟩ | ⟨er3, hp_1⟩
  · subst er3
    have f_2 : 0 ≤ (gI z1 12).toInt ∧ (gI z1 12).toInt ≤ 16 := tz1.1 12
    have q_3 := (show (gI z1 12).toInt = (gI z 12).toInt by rw [ez1]; rfl)
    have f_4 : 0 ≤ (gI z 12).toInt ∧ (gI z 12).toInt ≤ 16 := ht.1 12
    refine ⟨fun hc => absurd hc (by decide), fun _ => ?_⟩
    refine ⟨vin rfl (by omega) (by omega), ?_⟩
    refine ⟨fun c5 => ?_, fun c5 => ?_⟩
    · skip
      have q_5 := (show (gF z1 11 b1.toNatClampNeg).toInt = (gF z 11 b1.toNatClampNeg).toInt by rw [ez1]; rfl)
      have i_6 := i_eq rfl (show (2 : Int32).toInt = 2 by decide) c5
      have g_7 : (-1 : Int32).toInt = -1 := by decide
      exact hk ((-1 : Int32)) z1 tz1 oz1 trivial
    · skip
      have q_8 := (show (gF z1 11 b1.toNatClampNeg).toInt = (gF z 11 b1.toNatClampNeg).toInt by rw [ez1]; rfl)
      have i_9 := i_ne rfl (show (2 : Int32).toInt = 2 by decide) c5
      refine s_X9_isHour b2 z1 _ tz1  (fun r7 hp_10 => ?_)
      rcases hp_10 with ⟨er7, hp_10⟩ | ⟨er7, hp_10⟩
      · subst er7
        refine ⟨fun _ => ?_, fun hc => absurd hc (by decide)⟩
        refine s_X9_mayBegin b1 b2 z1 _ tz1 (by omega) (fun r10 z9 tz9 o_12 hp_11 => ?_)
        have oz9 : Same [0, 21] [13] z z9 := oz1.tr o_12 (by decide) (by decide)
        rcases hp_11 with ⟨er10, hp_11⟩ | ⟨er10, hp_11⟩
        · subst er10
          refine ⟨fun hc => absurd hc (by decide), fun _ => ?_⟩
          have g_13 : (1 : Int32).toInt = 1 := by decide
          exact hk ((1 : Int32)) z9 tz9 oz9 trivial
        · subst er10
          refine ⟨fun _ => ?_, fun hc => absurd (show ((0 : Int32)) = ((0 : Int32)) by decide) hc⟩
          have g_14 : (0 : Int32).toInt = 0 := by decide
          exact hk ((0 : Int32)) z9 tz9 oz9 trivial
      · subst er7
        refine ⟨fun hc => absurd hc (by decide), fun _ => ?_⟩
        have g_15 : (-1 : Int32).toInt = -1 := by decide
        exact hk ((-1 : Int32)) z1 tz1 oz1 trivial
  · subst er3
    have f_16 : 0 ≤ (gI z1 12).toInt ∧ (gI z1 12).toInt ≤ 16 := tz1.1 12
    have q_17 := (show (gI z1 12).toInt = (gI z 12).toInt by rw [ez1]; rfl)
    have f_18 : 0 ≤ (gI z 12).toInt ∧ (gI z 12).toInt ≤ 16 := ht.1 12
    refine ⟨fun _ => ?_, fun hc => absurd (show ((0 : Int32)) = ((0 : Int32)) by decide) hc⟩
    have g_19 : (-1 : Int32).toInt = -1 := by decide
    exact hk ((-1 : Int32)) z1 tz1 oz1 trivial

set_option maxHeartbeats 2000000 in
theorem s_X9_put (b1 : Int32) (b2 : Int32) (z : St) (P : Int32 → St → Prop) (ht : TM z)  (hk : ∀ (r : Int32) (z2 : St), TM z2 → Same [0, 1, 21] [11, 12, 13] z z2 → (True) → P r z2) : wp_X9_put b1 b2 z P := by
  unfold wp_X9_put
  intro z1 ez1
  have tz1 : TM z1 := by rw [ez1]; exact Ty_wI ht trivial
  have oz1 : Same [0, 1, 21] [11, 12, 13] z z1 := (Same.rf (z := z)).i (by decide) ez1
  refine s_X9_isJob b1 z1 _ tz1  (fun r3 hp_1 => ?_)
  rcases hp_1 with ⟨er3, hp_1⟩ | ⟨er3, hp_1⟩
  · subst er3
    have f_2 : 0 ≤ (gI z1 12).toInt ∧ (gI z1 12).toInt ≤ 16 := tz1.1 12
    have q_3 := (show (gI z1 12).toInt = (gI z 12).toInt by rw [ez1]; rfl)
    have f_4 : 0 ≤ (gI z 12).toInt ∧ (gI z 12).toInt ≤ 16 := ht.1 12
    refine ⟨fun _ => ?_, fun hc => absurd hc (by decide)⟩
    refine ⟨vin rfl (by omega) (by omega), ?_⟩
    refine ⟨fun c5 => ?_, fun c5 => ?_⟩
    · skip
      have q_5 := (show (gF z1 11 b1.toNatClampNeg).toInt = (gF z 11 b1.toNatClampNeg).toInt by rw [ez1]; rfl)
      have i_6 := i_ne rfl (show (2 : Int32).toInt = 2 by decide) c5
      refine s_X9_mayBegin b1 b2 z1 _ tz1 (by omega) (fun r7 z6 tz6 o_8 hp_7 => ?_)
      have oz6 : Same [0, 1, 21] [11, 12, 13] z z6 := oz1.tr o_8 (by decide) (by decide)
      rcases hp_7 with ⟨er7, hp_7⟩ | ⟨er7, hp_7⟩
      · subst er7
        refine ⟨fun _ => ?_, fun hc => absurd hc (by decide)⟩
        refine ⟨vin rfl (by omega) (by omega), ?_⟩
        intro z9 ez9
        have tz9 : TM z9 := by rw [ez9]; exact Ty_wR tz6 trivial
        have oz9 : Same [0, 1, 21] [11, 12, 13] z z9 := oz6.r (by decide) ez9
        refine ⟨vin rfl (by omega) (by omega), ?_⟩
        intro z10 ez10
        have tz10 : TM z10 := by rw [ez10]; exact Ty_wR tz9 trivial
        have oz10 : Same [0, 1, 21] [11, 12, 13] z z10 := oz9.r (by decide) ez10
        have g_9 : (0 : Int32).toInt = 0 := by decide
        refine s_X9_told ((0 : Int32)) z10 _ tz10  (fun r12 z11 tz11 o_11 hp_10 => ?_)
        have oz11 : Same [0, 1, 21] [11, 12, 13] z z11 := oz10.tr o_11 (by decide) (by decide)
        exact hk r12 z11 tz11 oz11 trivial
      · subst er7
        refine ⟨fun hc => absurd hc (by decide), fun _ => ?_⟩
        have g_12 : (-6 : Int32).toInt = -6 := by decide
        refine s_X9_told ((-6 : Int32)) z6 _ tz6  (fun r14 z13 tz13 o_14 hp_13 => ?_)
        have oz13 : Same [0, 1, 21] [11, 12, 13] z z13 := oz6.tr o_14 (by decide) (by decide)
        exact hk r14 z13 tz13 oz13 trivial
    · skip
      have q_15 := (show (gF z1 11 b1.toNatClampNeg).toInt = (gF z 11 b1.toNatClampNeg).toInt by rw [ez1]; rfl)
      have i_16 := i_eq rfl (show (2 : Int32).toInt = 2 by decide) c5
      have g_17 : (-3 : Int32).toInt = -3 := by decide
      refine s_X9_told ((-3 : Int32)) z1 _ tz1  (fun r16 z15 tz15 o_19 hp_18 => ?_)
      have oz15 : Same [0, 1, 21] [11, 12, 13] z z15 := oz1.tr o_19 (by decide) (by decide)
      exact hk r16 z15 tz15 oz15 trivial
  · subst er3
    have f_20 : 0 ≤ (gI z1 12).toInt ∧ (gI z1 12).toInt ≤ 16 := tz1.1 12
    have q_21 := (show (gI z1 12).toInt = (gI z 12).toInt by rw [ez1]; rfl)
    have f_22 : 0 ≤ (gI z 12).toInt ∧ (gI z 12).toInt ≤ 16 := ht.1 12
    refine ⟨fun hc => absurd hc (by decide), fun _ => ?_⟩
    have g_23 : (-2 : Int32).toInt = -2 := by decide
    refine s_X9_told ((-2 : Int32)) z1 _ tz1  (fun r18 z17 tz17 o_25 hp_24 => ?_)
    have oz17 : Same [0, 1, 21] [11, 12, 13] z z17 := oz1.tr o_25 (by decide) (by decide)
    exact hk r18 z17 tz17 oz17 trivial

set_option maxHeartbeats 2000000 in
theorem s_X9_costAt (b1 : Int32) (b2 : Int32) (b3 : Int32) (z : St) (P : Int64 → Prop) (ht : TM z) (h0 : 0 ≤ b1.toInt ∧ b1.toInt ≤ 15) (hk : ∀ r : Int64, True → P r) : wp_X9_costAt b1 b2 b3 z P := by
  unfold wp_X9_costAt
  intro K3 hK_1
  have L_2 : ∀ (n : Nat) (v1 : Int64) (v2 : Int32), (0 ≤ v2.toInt) → (v2.toInt ≤ 4) → (4 - v2.toInt).toNat < n → K3 v1 v2 := by
    intro n
    induction n with
    | zero => intro v1 v2 w_3 w_4 m_6; omega
    | succ n ih_5 =>
      intro v1 v2 w_3 w_4 m_6
      refine hK_1 v1 v2 ?_
      refine ⟨vin rfl (by omega) (by omega), ?_⟩
      refine ⟨fun c4 => ?_, fun c4 => ?_⟩
      · skip
        have f_7 : 0 ≤ (gF z 9 b1.toNatClampNeg).toInt ∧ (gF z 9 b1.toNatClampNeg).toInt ≤ 4 := ht.2 9 _
        have i_8 := i_le rfl rfl c4
        exact hk v1 trivial
      · skip
        have f_9 : 0 ≤ (gF z 9 b1.toNatClampNeg).toInt ∧ (gF z 9 b1.toNatClampNeg).toInt ≤ 4 := ht.2 9 _
        have i_10 := i_nle rfl rfl c4
        refine ⟨fun c5 => ?_, fun c5 => ?_⟩
        · skip
          have i_11 := i_le (show (168 : Int32).toInt = 168 by decide) rfl c5
          exact hk v1 trivial
        · skip
          have i_12 := i_nle (show (168 : Int32).toInt = 168 by decide) rfl c5
          refine ⟨vin (a_add (a_mul (show (4 : Int32).toInt = 4 by decide) rfl (by omega) (by omega)) rfl (by omega) (by omega)) (by omega) (by omega), ?_⟩
          refine s_X9_priceOf (b2 + v2) b3 z _ ht  (fun r7 hp_13 => ?_)
          intro x8 ex8
          intro x9 ex9
          have ix9 : x9.toInt = (v2.toInt + (1)) := by rw [ex9]; exact (a_add rfl (show (1 : Int32).toInt = 1 by decide) (by omega) (by omega))
          exact ih_5 x8 x9 (by omega) (by omega) (by omega)
  have g_14 : (0 : Int32).toInt = 0 := by decide
  exact L_2 ((4 - (0 : Int32).toInt).toNat + 1) ((0 : Int64)) ((0 : Int32)) (by omega) (by omega) (by omega)

set_option maxHeartbeats 2000000 in
theorem s_X9_each  (z : St) (P : Int32 → St → Prop) (ht : TM z)  (hk : ∀ (r : Int32) (z2 : St), TM z2 → Same [0, 21] [11, 12, 13] z z2 → (True) → P r z2) : wp_X9_each  z P := by
  unfold wp_X9_each
  intro z1 ez1
  have tz1 : TM z1 := by rw [ez1]; exact Ty_wI ht trivial
  have oz1 : Same [0, 21] [11, 12, 13] z z1 := (Same.rf (z := z)).i (by decide) ez1
  intro K3 hK_1
  have L_2 : ∀ (n : Nat) (v2 : Int32) (z4 : St), TM z4 → Same [0, 21] [11, 12, 13] z z4 → (0 ≤ v2.toInt) → (v2.toInt ≤ 16) → (16 - v2.toInt).toNat < n → K3 v2 z4 := by
    intro n
    induction n with
    | zero => intro v2 z4 tz4 ocz4 w_3 w_4 m_6; omega
    | succ n ih_5 =>
      intro v2 z4 tz4 ocz4 w_3 w_4 m_6
      refine hK_1 v2 z4 ?_
      refine ⟨fun c5 => ?_, fun c5 => ?_⟩
      · skip
        have f_7 : 0 ≤ (gI z4 12).toInt ∧ (gI z4 12).toInt ≤ 16 := tz4.1 12
        have q_8 := (ocz4.fi 12 (by decide))
        have f_9 : 0 ≤ (gI z 12).toInt ∧ (gI z 12).toInt ≤ 16 := ht.1 12
        have i_10 := i_le rfl rfl c5
        intro K8 hK_11
        have L_12 : ∀ (n : Nat) (v6 : Int32) (v7 : Int32) (z9 : St), TM z9 → Same [0, 21] [11, 12, 13] z z9 → (0 ≤ v7.toInt) → (v7.toInt ≤ 16) → (16 - v7.toInt).toNat < n → K8 v6 v7 z9 := by
          intro n
          induction n with
          | zero => intro v6 v7 z9 tz9 ocz9 w_13 w_14 m_16; omega
          | succ n ih_15 =>
            intro v6 v7 z9 tz9 ocz9 w_13 w_14 m_16
            refine hK_11 v6 v7 z9 ?_
            refine ⟨fun c10 => ?_, fun c10 => ?_⟩
            · skip
              have f_17 : 0 ≤ (gI z9 12).toInt ∧ (gI z9 12).toInt ≤ 16 := tz9.1 12
              have q_18 := (ocz9.fi 12 (by decide))
              have i_19 := i_le rfl rfl c10
              exact hk v6 z9 tz9 ocz9 trivial
            · skip
              have f_20 : 0 ≤ (gI z9 12).toInt ∧ (gI z9 12).toInt ≤ 16 := tz9.1 12
              have q_21 := (ocz9.fi 12 (by decide))
              have i_22 := i_nle rfl rfl c10
              refine ⟨vin rfl (by omega) (by omega), ?_⟩
              intro K12 hK_23
              refine ⟨fun c15 => ?_, fun c15 => ?_⟩
              · skip
                have i_24 := i_ne rfl (show (2 : Int32).toInt = 2 by decide) c15
                refine ⟨vin rfl (by omega) (by omega), ?_⟩
                intro K19 hK_25
                have L_26 : ∀ (n : Nat) (v16 : Int32) (v17 : Int64) (v18 : Int32) (z20 : St), TM z20 → Same [0, 21] [11, 12, 13] z z20 → (0 ≤ v18.toInt) → (v18.toInt ≤ 168) → (168 - v18.toInt).toNat < n → K19 v16 v17 v18 z20 := by
                  intro n
                  induction n with
                  | zero => intro v16 v17 v18 z20 tz20 ocz20 w_27 w_28 m_30; omega
                  | succ n ih_29 =>
                    intro v16 v17 v18 z20 tz20 ocz20 w_27 w_28 m_30
                    refine hK_25 v16 v17 v18 z20 ?_
                    refine ⟨vin rfl (by omega) (by omega), ?_⟩
                    refine ⟨fun c21 => ?_, fun c21 => ?_⟩
                    · skip
                      have f_31 : 0 ≤ (gF z20 8 v7.toNatClampNeg).toInt ∧ (gF z20 8 v7.toNatClampNeg).toInt ≤ 167 := tz20.2 8 _
                      have q_32 := (ocz20.ff 8 v7.toNatClampNeg (by decide))
                      have f_33 : 0 ≤ (gF z 8 v7.toNatClampNeg).toInt ∧ (gF z 8 v7.toNatClampNeg).toInt ≤ 167 := ht.2 8 _
                      have i_34 := i_lt rfl rfl c21
                      intro K22 hK_35
                      refine ⟨fun c29 => ?_, fun c29 => ?_⟩
                      · skip
                        have i_36 := i_lt rfl (show (0 : Int32).toInt = 0 by decide) c29
                        refine hK_35 z20 ?_
                        intro K_37 hK_42
                        refine ⟨fun c_41 => ?_, fun c_41 => ?_⟩
                        · skip
                          have i_43 := i_le (show (0 : Int32).toInt = 0 by decide) rfl c_41
                          refine hK_42 ((0 : Int32)) v6 ?_
                          intro y_44 ey_44
                          have iy_44 : y_44.toInt = (v6 + (0 : Int32)).toInt := by rw [ey_44]
                          refine hK_23 y_44 z20 ?_
                          intro y_45 ey_45
                          have iy_45 : y_45.toInt = (v7.toInt + (1)) := by rw [ey_45]; exact (a_add rfl (show (1 : Int32).toInt = 1 by decide) (by omega) (by omega))
                          exact ih_15 y_44 y_45 z20 tz20 ocz20 (by omega) (by omega) (by omega)
                        · skip
                          have i_46 := i_nle (show (0 : Int32).toInt = 0 by decide) rfl c_41
                          refine hK_42 ((1 : Int32)) v6 ?_
                          intro y_47 ey_47
                          have iy_47 : y_47.toInt = (v6 + (1 : Int32)).toInt := by rw [ey_47]
                          refine hK_23 y_47 z20 ?_
                          intro y_48 ey_48
                          have iy_48 : y_48.toInt = (v7.toInt + (1)) := by rw [ey_48]; exact (a_add rfl (show (1 : Int32).toInt = 1 by decide) (by omega) (by omega))
                          exact ih_15 y_47 y_48 z20 tz20 ocz20 (by omega) (by omega) (by omega)
                      · skip
                        have i_49 := i_nlt rfl (show (0 : Int32).toInt = 0 by decide) c29
                        refine ⟨vin rfl (by omega) (by omega), ?_⟩
                        intro z30 ez30
                        have tz30 : TM z30 := by rw [ez30]; exact Ty_wR tz20 trivial
                        have oz30 : Same [0, 21] [11, 12, 13] z z30 := ocz20.r (by decide) ez30
                        refine ⟨vin rfl (by omega) (by omega), ?_⟩
                        intro z31 ez31
                        have tz31 : TM z31 := by rw [ez31]; exact Ty_wR tz30 trivial
                        have oz31 : Same [0, 21] [11, 12, 13] z z31 := oz30.r (by decide) ez31
                        refine hK_35 z31 ?_
                        intro K_50 hK_55
                        refine ⟨fun c_54 => ?_, fun c_54 => ?_⟩
                        · skip
                          have i_56 := i_le (show (0 : Int32).toInt = 0 by decide) rfl c_54
                          refine hK_55 ((0 : Int32)) v6 ?_
                          intro y_57 ey_57
                          have iy_57 : y_57.toInt = (v6 + (0 : Int32)).toInt := by rw [ey_57]
                          refine hK_23 y_57 z31 ?_
                          intro y_58 ey_58
                          have iy_58 : y_58.toInt = (v7.toInt + (1)) := by rw [ey_58]; exact (a_add rfl (show (1 : Int32).toInt = 1 by decide) (by omega) (by omega))
                          exact ih_15 y_57 y_58 z31 tz31 oz31 (by omega) (by omega) (by omega)
                        · skip
                          have i_59 := i_nle (show (0 : Int32).toInt = 0 by decide) rfl c_54
                          refine hK_55 ((1 : Int32)) v6 ?_
                          intro y_60 ey_60
                          have iy_60 : y_60.toInt = (v6 + (1 : Int32)).toInt := by rw [ey_60]
                          refine hK_23 y_60 z31 ?_
                          intro y_61 ey_61
                          have iy_61 : y_61.toInt = (v7.toInt + (1)) := by rw [ey_61]; exact (a_add rfl (show (1 : Int32).toInt = 1 by decide) (by omega) (by omega))
                          exact ih_15 y_60 y_61 z31 tz31 oz31 (by omega) (by omega) (by omega)
                    · skip
                      have f_62 : 0 ≤ (gF z20 8 v7.toNatClampNeg).toInt ∧ (gF z20 8 v7.toNatClampNeg).toInt ≤ 167 := tz20.2 8 _
                      have q_63 := (ocz20.ff 8 v7.toNatClampNeg (by decide))
                      have f_64 : 0 ≤ (gF z 8 v7.toNatClampNeg).toInt ∧ (gF z 8 v7.toNatClampNeg).toInt ≤ 167 := ht.2 8 _
                      have i_65 := i_nlt rfl rfl c21
                      refine s_X9_mayBegin v7 v18 z20 _ tz20 (by omega) (fun r33 z32 tz32 o_67 hp_66 => ?_)
                      have oz32 : Same [0, 21] [11, 12, 13] z z32 := ocz20.tr o_67 (by decide) (by decide)
                      rcases hp_66 with ⟨er33, hp_66⟩ | ⟨er33, hp_66⟩
                      · subst er33
                        intro K36 hK_68
                        refine ⟨fun hc => absurd hc (by decide), fun _ => ?_⟩
                        have f_69 : 0 ≤ (gI z32 2).toInt ∧ (gI z32 2).toInt ≤ 167 := tz32.1 2
                        have q_70 := ((o_67.fi 2 (by decide))).trans (ocz20.fi 2 (by decide))
                        have f_71 : 0 ≤ (gI z 2).toInt ∧ (gI z 2).toInt ≤ 167 := ht.1 2
                        refine s_X9_costAt v7 v18 (gI z32 2) z32 _ tz32 (by omega) (fun r40 hp_72 => ?_)
                        intro K41 hK_73
                        refine ⟨fun c42 => ?_, fun c42 => ?_⟩
                        · skip
                          have i_74 := i_lt rfl (show (0 : Int32).toInt = 0 by decide) c42
                          refine hK_73  ?_
                          refine hK_68 v18 r40 ?_
                          intro y_75 ey_75
                          have iy_75 : y_75.toInt = (v18.toInt + (1)) := by rw [ey_75]; exact (a_add rfl (show (1 : Int32).toInt = 1 by decide) (by omega) (by omega))
                          exact ih_29 v18 r40 y_75 z32 tz32 oz32 (by omega) (by omega) (by omega)
                        · skip
                          have i_76 := i_nlt rfl (show (0 : Int32).toInt = 0 by decide) c42
                          refine ⟨fun c43 => ?_, fun c43 => ?_⟩
                          · skip
                            refine hK_68 v16 v17 ?_
                            intro y_77 ey_77
                            have iy_77 : y_77.toInt = (v18.toInt + (1)) := by rw [ey_77]; exact (a_add rfl (show (1 : Int32).toInt = 1 by decide) (by omega) (by omega))
                            exact ih_29 v16 v17 y_77 z32 tz32 oz32 (by omega) (by omega) (by omega)
                          · skip
                            refine hK_73  ?_
                            refine hK_68 v18 r40 ?_
                            intro y_78 ey_78
                            have iy_78 : y_78.toInt = (v18.toInt + (1)) := by rw [ey_78]; exact (a_add rfl (show (1 : Int32).toInt = 1 by decide) (by omega) (by omega))
                            exact ih_29 v18 r40 y_78 z32 tz32 oz32 (by omega) (by omega) (by omega)
                      · subst er33
                        intro K36 hK_79
                        refine ⟨fun _ => ?_, fun hc => absurd (show ((0 : Int32)) = ((0 : Int32)) by decide) hc⟩
                        refine hK_79 v16 v17 ?_
                        intro y_80 ey_80
                        have iy_80 : y_80.toInt = (v18.toInt + (1)) := by rw [ey_80]; exact (a_add rfl (show (1 : Int32).toInt = 1 by decide) (by omega) (by omega))
                        exact ih_29 v16 v17 y_80 z32 tz32 oz32 (by omega) (by omega) (by omega)
                intro x44 ex44
                have f_81 : 0 ≤ (gF z9 7 v7.toNatClampNeg).toInt ∧ (gF z9 7 v7.toNatClampNeg).toInt ≤ 167 := tz9.2 7 _
                have q_82 := (ocz9.ff 7 v7.toNatClampNeg (by decide))
                have f_83 : 0 ≤ (gF z 7 v7.toNatClampNeg).toInt ∧ (gF z 7 v7.toNatClampNeg).toInt ≤ 167 := ht.2 7 _
                have ix44 : x44.toInt = (gF z9 7 v7.toNatClampNeg).toInt := by rw [ex44]
                have g_84 : (-1 : Int32).toInt = -1 := by decide
                exact L_26 ((168 - x44.toInt).toNat + 1) ((-1 : Int32)) ((0 : Int64)) x44 z9 tz9 ocz9 (by omega) (by omega) (by omega)
              · skip
                have i_85 := i_eq rfl (show (2 : Int32).toInt = 2 by decide) c15
                refine hK_23 v6 z9 ?_
                intro y_86 ey_86
                have iy_86 : y_86.toInt = (v7.toInt + (1)) := by rw [ey_86]; exact (a_add rfl (show (1 : Int32).toInt = 1 by decide) (by omega) (by omega))
                exact ih_15 v6 y_86 z9 tz9 ocz9 (by omega) (by omega) (by omega)
        have g_87 : (0 : Int32).toInt = 0 := by decide
        have g_88 : (0 : Int32).toInt = 0 := by decide
        exact L_12 ((16 - (0 : Int32).toInt).toNat + 1) ((0 : Int32)) ((0 : Int32)) z4 tz4 ocz4 (by omega) (by omega) (by omega)
      · skip
        have f_89 : 0 ≤ (gI z4 12).toInt ∧ (gI z4 12).toInt ≤ 16 := tz4.1 12
        have q_90 := (ocz4.fi 12 (by decide))
        have f_91 : 0 ≤ (gI z 12).toInt ∧ (gI z 12).toInt ≤ 16 := ht.1 12
        have i_92 := i_nle rfl rfl c5
        refine ⟨vin rfl (by omega) (by omega), ?_⟩
        intro K47 hK_93
        refine ⟨fun c50 => ?_, fun c50 => ?_⟩
        · skip
          have i_94 := i_ne rfl (show (2 : Int32).toInt = 2 by decide) c50
          refine hK_93 ((0 : Int32)) v2 ?_
          refine ⟨vin rfl (by omega) (by omega), ?_⟩
          intro z_95 ez_95
          have tz_95 : TM z_95 := by rw [ez_95]; exact Ty_wR tz4 trivial
          have oz_95 : Same [0, 21] [11, 12, 13] z z_95 := ocz4.r (by decide) ez_95
          intro y_96 ey_96
          have iy_96 : y_96.toInt = (v2.toInt + (1)) := by rw [ey_96]; exact (a_add rfl (show (1 : Int32).toInt = 1 by decide) (by omega) (by omega))
          exact ih_5 y_96 z_95 tz_95 oz_95 (by omega) (by omega) (by omega)
        · skip
          have i_97 := i_eq rfl (show (2 : Int32).toInt = 2 by decide) c50
          refine hK_93 ((2 : Int32)) v2 ?_
          refine ⟨vin rfl (by omega) (by omega), ?_⟩
          intro z_98 ez_98
          have tz_98 : TM z_98 := by rw [ez_98]; exact Ty_wR tz4 trivial
          have oz_98 : Same [0, 21] [11, 12, 13] z z_98 := ocz4.r (by decide) ez_98
          intro y_99 ey_99
          have iy_99 : y_99.toInt = (v2.toInt + (1)) := by rw [ey_99]; exact (a_add rfl (show (1 : Int32).toInt = 1 by decide) (by omega) (by omega))
          exact ih_5 y_99 z_98 tz_98 oz_98 (by omega) (by omega) (by omega)
  have g_100 : (0 : Int32).toInt = 0 := by decide
  exact L_2 ((16 - (0 : Int32).toInt).toNat + 1) ((0 : Int32)) z1 tz1 oz1 (by omega) (by omega) (by omega)

set_option maxHeartbeats 2000000 in
theorem s_X9_four (b1 : Int32) (z : St) (P : St → Prop) (ht : TM z) (h0 : (gI z 36).toInt + 4 ≤ 300) (hk : ∀ (z2 : St), TM z2 → Same [36] [25] z z2 → ((gI z2 36).toInt = (gI z 36).toInt + 4) → P z2) : wp_X9_four b1 z P := by
  unfold wp_X9_four
  intro K2 hK_1
  have L_2 : ∀ (n : Nat) (v1 : Int32) (z3 : St), TM z3 → Same [36] [25] z z3 → (8 * ((gI z3 36).toInt - (gI z 36).toInt) = 24 - v1.toInt) → (-8 ≤ v1.toInt) → (v1.toInt ≤ 24) → (v1.toInt + 8).toNat < n → K2 v1 z3 := by
    intro n
    induction n with
    | zero => intro v1 z3 tz3 ocz3 w_3 w_4 w_5 m_7; omega
    | succ n ih_6 =>
      intro v1 z3 tz3 ocz3 w_3 w_4 w_5 m_7
      have f_8 : 0 ≤ (gI z3 36).toInt ∧ (gI z3 36).toInt ≤ 300 := tz3.1 36
      have f_9 : 0 ≤ (gI z 36).toInt ∧ (gI z 36).toInt ≤ 300 := ht.1 36
      refine hK_1 v1 z3 ?_
      refine ⟨fun c4 => ?_, fun c4 => ?_⟩
      · skip
        have i_10 := i_lt rfl (show (0 : Int32).toInt = 0 by decide) c4
        exact hk z3 tz3 ocz3 (by omega)
      · skip
        have i_11 := i_nlt rfl (show (0 : Int32).toInt = 0 by decide) c4
        refine ⟨vin rfl (by omega) (by omega), ?_⟩
        intro z5 ez5
        have tz5 : TM z5 := by rw [ez5]; exact Ty_wR tz3 trivial
        have oz5 : Same [36] [25] z z5 := ocz3.r (by decide) ez5
        intro z6 ez6
        have f_12 : 0 ≤ (gI z5 36).toInt ∧ (gI z5 36).toInt ≤ 300 := tz5.1 36
        have q_13 := (show (gI z5 36).toInt = (gI z3 36).toInt by rw [ez5]; rfl)
        have tz6 : TM z6 := by rw [ez6]; exact Ty_wI tz5 (show 0 ≤ ((gI z5 36) + (1 : Int32)).toInt ∧ ((gI z5 36) + (1 : Int32)).toInt ≤ 300 from by rw [(a_add rfl (show (1 : Int32).toInt = 1 by decide) (by omega) (by omega))]; omega)
        have oz6 : Same [36] [25] z z6 := oz5.i (by decide) ez6
        intro x7 ex7
        have ix7 : x7.toInt = (v1.toInt + (-8)) := by rw [ex7]; exact (a_add rfl (show (-8 : Int32).toInt = -8 by decide) (by omega) (by omega))
        have f_14 : 0 ≤ (gI z6 36).toInt ∧ (gI z6 36).toInt ≤ 300 := tz6.1 36
        have q_15 := (show (gI z6 36).toInt = ((gI z5 36) + (1 : Int32)).toInt by rw [ez6]; rfl)
        have q_16 : ((gI z5 36) + (1 : Int32)).toInt = ((gI z5 36).toInt + (1)) := (a_add rfl (show (1 : Int32).toInt = 1 by decide) (by omega) (by omega))
        exact ih_6 x7 z6 tz6 oz6 (by omega) (by omega) (by omega) (by omega)
  have g_17 : (24 : Int32).toInt = 24 := by decide
  have f_18 : 0 ≤ (gI z 36).toInt ∧ (gI z 36).toInt ≤ 300 := ht.1 36
  exact L_2 (((24 : Int32).toInt + 8).toNat + 1) ((24 : Int32)) z ht (Same.rf (z := z)) (by omega) (by omega) (by omega) (by omega)

set_option maxHeartbeats 2000000 in
theorem s_X9_feed (b1 : Int32) (b2 : Int32) (b3 : Int32) (b4 : Int32) (b5 : Int32) (z : St) (P : Int32 → St → Prop) (ht : TM z)  (hk : ∀ (r : Int32) (z2 : St), TM z2 → Same [0, 36] [25] z z2 → ((280 < (gI z 36).toInt ∧ r.toInt = -1 ∧ (gI z2 36).toInt = (gI z 36).toInt) ∨ ((gI z 36).toInt ≤ 280 ∧ r.toInt = (gI z 36).toInt + 20 ∧ (gI z2 36).toInt = (gI z 36).toInt + 20)) → P r z2) : wp_X9_feed b1 b2 b3 b4 b5 z P := by
  unfold wp_X9_feed
  intro z1 ez1
  have tz1 : TM z1 := by rw [ez1]; exact Ty_wI ht trivial
  have oz1 : Same [0, 36] [25] z z1 := (Same.rf (z := z)).i (by decide) ez1
  refine ⟨fun c2 => ?_, fun c2 => ?_⟩
  · skip
    have f_1 : 0 ≤ (gI z1 36).toInt ∧ (gI z1 36).toInt ≤ 300 := tz1.1 36
    have q_2 := (show (gI z1 36).toInt = (gI z 36).toInt by rw [ez1]; rfl)
    have f_3 : 0 ≤ (gI z 36).toInt ∧ (gI z 36).toInt ≤ 300 := ht.1 36
    have i_4 := i_le (a_add rfl (show (20 : Int32).toInt = 20 by decide) (by omega) (by omega)) (show (300 : Int32).toInt = 300 by decide) c2
    refine s_X9_four b1 z1 _ tz1 (by omega) (fun z3 tz3 o_6 hp_5 => ?_)
    have oz3 : Same [0, 36] [25] z z3 := oz1.tr o_6 (by decide) (by decide)
    have f_7 : 0 ≤ (gI z3 36).toInt ∧ (gI z3 36).toInt ≤ 300 := tz3.1 36
    refine s_X9_four b2 z3 _ tz3 (by omega) (fun z5 tz5 o_9 hp_8 => ?_)
    have oz5 : Same [0, 36] [25] z z5 := oz3.tr o_9 (by decide) (by decide)
    have f_10 : 0 ≤ (gI z5 36).toInt ∧ (gI z5 36).toInt ≤ 300 := tz5.1 36
    refine s_X9_four b3 z5 _ tz5 (by omega) (fun z7 tz7 o_12 hp_11 => ?_)
    have oz7 : Same [0, 36] [25] z z7 := oz5.tr o_12 (by decide) (by decide)
    have f_13 : 0 ≤ (gI z7 36).toInt ∧ (gI z7 36).toInt ≤ 300 := tz7.1 36
    refine s_X9_four b4 z7 _ tz7 (by omega) (fun z9 tz9 o_15 hp_14 => ?_)
    have oz9 : Same [0, 36] [25] z z9 := oz7.tr o_15 (by decide) (by decide)
    have f_16 : 0 ≤ (gI z9 36).toInt ∧ (gI z9 36).toInt ≤ 300 := tz9.1 36
    refine s_X9_four b5 z9 _ tz9 (by omega) (fun z11 tz11 o_18 hp_17 => ?_)
    have oz11 : Same [0, 36] [25] z z11 := oz9.tr o_18 (by decide) (by decide)
    have f_19 : 0 ≤ (gI z11 36).toInt ∧ (gI z11 36).toInt ≤ 300 := tz11.1 36
    exact hk (gI z11 36) z11 tz11 oz11 (by omega)
  · skip
    have f_20 : 0 ≤ (gI z1 36).toInt ∧ (gI z1 36).toInt ≤ 300 := tz1.1 36
    have q_21 := (show (gI z1 36).toInt = (gI z 36).toInt by rw [ez1]; rfl)
    have f_22 : 0 ≤ (gI z 36).toInt ∧ (gI z 36).toInt ≤ 300 := ht.1 36
    have i_23 := i_nle (a_add rfl (show (20 : Int32).toInt = 20 by decide) (by omega) (by omega)) (show (300 : Int32).toInt = 300 by decide) c2
    have g_24 : (-1 : Int32).toInt = -1 := by decide
    exact hk ((-1 : Int32)) z1 tz1 oz1 (by omega)

set_option maxHeartbeats 2000000 in
theorem s_X9_end (b1 : Int32) (z : St) (P : Int32 → St → Prop) (ht : TM z)  (hk : ∀ (r : Int32) (z2 : St), TM z2 → Same [0, 36] [] z z2 → (((b1.toInt < 0 ∨ (gI z 36).toInt < b1.toInt) ∧ r.toInt = -1 ∧ (gI z2 36).toInt = (gI z 36).toInt) ∨ (0 ≤ b1.toInt ∧ b1.toInt ≤ (gI z 36).toInt ∧ r.toInt = b1.toInt ∧ (gI z2 36).toInt = b1.toInt)) → P r z2) : wp_X9_end b1 z P := by
  unfold wp_X9_end
  intro z1 ez1
  have tz1 : TM z1 := by rw [ez1]; exact Ty_wI ht trivial
  have oz1 : Same [0, 36] [] z z1 := (Same.rf (z := z)).i (by decide) ez1
  refine ⟨fun c2 => ?_, fun c2 => ?_⟩
  · skip
    have i_1 := i_lt rfl (show (0 : Int32).toInt = 0 by decide) c2
    have g_2 : (-1 : Int32).toInt = -1 := by decide
    have f_3 : 0 ≤ (gI z 36).toInt ∧ (gI z 36).toInt ≤ 300 := ht.1 36
    have f_4 : 0 ≤ (gI z1 36).toInt ∧ (gI z1 36).toInt ≤ 300 := tz1.1 36
    have q_5 := (show (gI z1 36).toInt = (gI z 36).toInt by rw [ez1]; rfl)
    exact hk ((-1 : Int32)) z1 tz1 oz1 (by omega)
  · skip
    have i_6 := i_nlt rfl (show (0 : Int32).toInt = 0 by decide) c2
    refine ⟨fun c3 => ?_, fun c3 => ?_⟩
    · skip
      have f_7 : 0 ≤ (gI z1 36).toInt ∧ (gI z1 36).toInt ≤ 300 := tz1.1 36
      have q_8 := (show (gI z1 36).toInt = (gI z 36).toInt by rw [ez1]; rfl)
      have f_9 : 0 ≤ (gI z 36).toInt ∧ (gI z 36).toInt ≤ 300 := ht.1 36
      have i_10 := i_le rfl rfl c3
      intro z4 ez4
      have tz4 : TM z4 := by rw [ez4]; exact Ty_wI tz1 (show 0 ≤ b1.toInt ∧ b1.toInt ≤ 300 from by omega)
      have oz4 : Same [0, 36] [] z z4 := oz1.i (by decide) ez4
      have f_11 : 0 ≤ (gI z4 36).toInt ∧ (gI z4 36).toInt ≤ 300 := tz4.1 36
      have q_12 := (show (gI z4 36).toInt = b1.toInt by rw [ez4]; rfl)
      exact hk b1 z4 tz4 oz4 (by omega)
    · skip
      have f_13 : 0 ≤ (gI z1 36).toInt ∧ (gI z1 36).toInt ≤ 300 := tz1.1 36
      have q_14 := (show (gI z1 36).toInt = (gI z 36).toInt by rw [ez1]; rfl)
      have f_15 : 0 ≤ (gI z 36).toInt ∧ (gI z 36).toInt ≤ 300 := ht.1 36
      have i_16 := i_nle rfl rfl c3
      have g_17 : (-1 : Int32).toInt = -1 := by decide
      exact hk ((-1 : Int32)) z1 tz1 oz1 (by omega)

set_option maxHeartbeats 2000000 in
theorem s_X9_isDigit (b1 : Int32) (z : St) (P : Int32 → Prop) (ht : TM z)  (hk : ∀ r : Int32, (r = 1 ∧ (True)) ∨ (r = 0 ∧ (True)) → P r) : wp_X9_isDigit b1 z P := by
  unfold wp_X9_isDigit
  refine ⟨fun c1 => ?_, fun c1 => ?_⟩
  · skip
    have i_1 := i_lt rfl (show (48 : Int32).toInt = 48 by decide) c1
    have g_2 : (0 : Int32).toInt = 0 := by decide
    exact hk ((0 : Int32)) (Or.inr ⟨rfl, trivial⟩)
  · skip
    have i_3 := i_nlt rfl (show (48 : Int32).toInt = 48 by decide) c1
    refine ⟨fun c2 => ?_, fun c2 => ?_⟩
    · skip
      have i_4 := i_lt (show (57 : Int32).toInt = 57 by decide) rfl c2
      have g_5 : (0 : Int32).toInt = 0 := by decide
      exact hk ((0 : Int32)) (Or.inr ⟨rfl, trivial⟩)
    · skip
      have i_6 := i_nlt (show (57 : Int32).toInt = 57 by decide) rfl c2
      have g_7 : (1 : Int32).toInt = 1 := by decide
      exact hk ((1 : Int32)) (Or.inl ⟨rfl, trivial⟩)

set_option maxHeartbeats 2000000 in
theorem s_X9_isSmall (b1 : Int32) (z : St) (P : Int32 → Prop) (ht : TM z)  (hk : ∀ r : Int32, (r = 1 ∧ (True)) ∨ (r = 0 ∧ (True)) → P r) : wp_X9_isSmall b1 z P := by
  unfold wp_X9_isSmall
  refine ⟨fun c1 => ?_, fun c1 => ?_⟩
  · skip
    have i_1 := i_lt rfl (show (97 : Int32).toInt = 97 by decide) c1
    have g_2 : (0 : Int32).toInt = 0 := by decide
    exact hk ((0 : Int32)) (Or.inr ⟨rfl, trivial⟩)
  · skip
    have i_3 := i_nlt rfl (show (97 : Int32).toInt = 97 by decide) c1
    refine ⟨fun c2 => ?_, fun c2 => ?_⟩
    · skip
      have i_4 := i_lt (show (122 : Int32).toInt = 122 by decide) rfl c2
      have g_5 : (0 : Int32).toInt = 0 := by decide
      exact hk ((0 : Int32)) (Or.inr ⟨rfl, trivial⟩)
    · skip
      have i_6 := i_nlt (show (122 : Int32).toInt = 122 by decide) rfl c2
      have g_7 : (1 : Int32).toInt = 1 := by decide
      exact hk ((1 : Int32)) (Or.inl ⟨rfl, trivial⟩)

