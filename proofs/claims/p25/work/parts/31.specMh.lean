set_option maxHeartbeats 2000000 in
theorem s_X9_goes (b1 : Int32) (b2 : Int32) (b3 : Int32) (b4 : Int32) (b5 : Int32) (z : St) (P : Int32 → Prop) (ht : TM z) (h0 : 0 ≤ b1.toInt ∧ b1.toInt ≤ 5) (h1 : 0 ≤ b2.toInt ∧ b2.toInt ≤ 40) (h2 : -10 ≤ b3.toInt ∧ b3.toInt ≤ 10) (hk : ∀ r : Int32, (r = 1 ∧ (0 ≤ b2.toInt + b3.toInt ∧ b2.toInt + b3.toInt ≤ 40)) ∨ (r = 0 ∧ (True)) → P r) : wp_X9_goes b1 b2 b3 b4 b5 z P := by
  unfold wp_X9_goes
  refine ⟨vin rfl (by omega) (by omega), ?_⟩
  have g_1 : (Int32.toInt64 (b2 + b3)).toInt = (b2.toInt + b3.toInt) := (a_wide (a_add rfl rfl (by omega) (by omega)))
  have g_2 : (0 : Int64).toInt = 0 := by decide
  have f_3 : 0 ≤ (gF z 27 b1.toNatClampNeg).toInt ∧ (gF z 27 b1.toNatClampNeg).toInt ≤ 40 := ht.2 27 _
  have g_4 : (Int32.toInt64 (gF z 27 b1.toNatClampNeg)).toInt = (gF z 27 b1.toNatClampNeg).toInt := (a_wide rfl)
  refine s_X9_in (Int32.toInt64 (b2 + b3)) ((0 : Int64)) (Int32.toInt64 (gF z 27 b1.toNatClampNeg)) z _ ht  (fun r2 hp_5 => ?_)
  rcases hp_5 with ⟨er2, hp_5⟩ | ⟨er2, hp_5⟩
  · subst er2
    refine ⟨fun _ => ?_, fun hc => absurd hc (by decide)⟩
    refine ⟨vin rfl (by omega) (by omega), ?_⟩
    intro x4 ex4
    have ix4 : x4.toInt = (b3 * (gF z 32 b1.toNatClampNeg)).toInt := by rw [ex4]
    refine ⟨fun c5 => ?_, fun c5 => ?_⟩
    · skip
      have i_6 := i_eq rfl (show (0 : Int32).toInt = 0 by decide) c5
      have g_7 : (1 : Int32).toInt = 1 := by decide
      exact hk ((1 : Int32)) (Or.inl ⟨rfl, (by omega)⟩)
    · skip
      have i_8 := i_ne rfl (show (0 : Int32).toInt = 0 by decide) c5
      refine ⟨fun c6 => ?_, fun c6 => ?_⟩
      · skip
        have i_9 := i_le rfl (show (0 : Int32).toInt = 0 by decide) c6
        refine ⟨fun c7 => ?_, fun c7 => ?_⟩
        · skip
          have i_10 := i_lt rfl rfl c7
          have g_11 : (0 : Int32).toInt = 0 := by decide
          exact hk ((0 : Int32)) (Or.inr ⟨rfl, trivial⟩)
        · skip
          have i_12 := i_nlt rfl rfl c7
          have g_13 : (1 : Int32).toInt = 1 := by decide
          exact hk ((1 : Int32)) (Or.inl ⟨rfl, (by omega)⟩)
      · skip
        have i_14 := i_nle rfl (show (0 : Int32).toInt = 0 by decide) c6
        refine ⟨vin rfl (by omega) (by omega), ?_⟩
        have f_15 : 0 ≤ (gF z 26 b1.toNatClampNeg).toInt ∧ (gF z 26 b1.toNatClampNeg).toInt ≤ 3 := ht.2 26 _
        refine ⟨vin rfl (by omega) (by omega), ?_⟩
        refine ⟨fun c8 => ?_, fun c8 => ?_⟩
        · skip
          have i_16 := i_lt rfl rfl c8
          have g_17 : (0 : Int32).toInt = 0 := by decide
          exact hk ((0 : Int32)) (Or.inr ⟨rfl, trivial⟩)
        · skip
          have i_18 := i_nlt rfl rfl c8
          have g_19 : (1 : Int32).toInt = 1 := by decide
          exact hk ((1 : Int32)) (Or.inl ⟨rfl, (by omega)⟩)
  · subst er2
    refine ⟨fun hc => absurd hc (by decide), fun _ => ?_⟩
    have g_20 : (0 : Int32).toInt = 0 := by decide
    exact hk ((0 : Int32)) (Or.inr ⟨rfl, trivial⟩)

set_option maxHeartbeats 2000000 in
theorem s_X9_filled (b1 : Int32) (b2 : Int32) (z : St) (P : Int32 → St → Prop) (ht : TM z)  (hk : ∀ (r : Int32) (z2 : St), TM z2 → Same [0] [] z z2 → (True) → P r z2) : wp_X9_filled b1 b2 z P := by
  unfold wp_X9_filled
  intro z1 ez1
  have tz1 : TM z1 := by rw [ez1]; exact Ty_wI ht trivial
  have oz1 : Same [0] [] z z1 := (Same.rf (z := z)).i (by decide) ez1
  have g_1 : (Int32.toInt64 b1).toInt = b1.toInt := (a_wide rfl)
  have g_2 : (0 : Int64).toInt = 0 := by decide
  have f_3 : 0 ≤ (gI z1 55).toInt ∧ (gI z1 55).toInt ≤ 48 := tz1.1 55
  have q_4 := (show (gI z1 55).toInt = (gI z 55).toInt by rw [ez1]; rfl)
  have f_5 : 0 ≤ (gI z 55).toInt ∧ (gI z 55).toInt ≤ 48 := ht.1 55
  have g_6 : ((Int32.toInt64 (gI z1 55)) - (1 : Int64)).toInt = ((gI z1 55).toInt - (1)) := (a_subL (a_wide rfl) (show (1 : Int64).toInt = 1 by decide) (by omega) (by omega))
  refine s_X9_in (Int32.toInt64 b1) ((0 : Int64)) ((Int32.toInt64 (gI z1 55)) - ((1 : Int64))) z1 _ tz1  (fun r3 hp_7 => ?_)
  rcases hp_7 with ⟨er3, hp_7⟩ | ⟨er3, hp_7⟩
  · subst er3
    refine ⟨fun _ => ?_, fun hc => absurd hc (by decide)⟩
    refine ⟨fun c5 => ?_, fun c5 => ?_⟩
    · skip
      have i_8 := i_ne rfl (show (0 : Int32).toInt = 0 by decide) c5
      refine ⟨fun c6 => ?_, fun c6 => ?_⟩
      · skip
        have i_9 := i_ne rfl (show (1 : Int32).toInt = 1 by decide) c6
        have g_10 : (-1000 : Int32).toInt = -1000 := by decide
        exact hk ((-1000 : Int32)) z1 tz1 oz1 trivial
      · skip
        have i_11 := i_eq rfl (show (1 : Int32).toInt = 1 by decide) c6
        refine ⟨vin rfl (by omega) (by omega), ?_⟩
        have q_12 := (show (gF z1 36 b1.toNatClampNeg).toInt = (gF z 36 b1.toNatClampNeg).toInt by rw [ez1]; rfl)
        exact hk (gF z1 36 b1.toNatClampNeg) z1 tz1 oz1 trivial
    · skip
      have i_13 := i_eq rfl (show (0 : Int32).toInt = 0 by decide) c5
      refine ⟨vin rfl (by omega) (by omega), ?_⟩
      have q_14 := (show (gF z1 35 b1.toNatClampNeg).toInt = (gF z 35 b1.toNatClampNeg).toInt by rw [ez1]; rfl)
      exact hk (gF z1 35 b1.toNatClampNeg) z1 tz1 oz1 trivial
  · subst er3
    refine ⟨fun hc => absurd hc (by decide), fun _ => ?_⟩
    have g_15 : (-1000 : Int32).toInt = -1000 := by decide
    exact hk ((-1000 : Int32)) z1 tz1 oz1 trivial

set_option maxHeartbeats 2000000 in
theorem s_X9_jobsThat (b1 : Int32) (z : St) (P : Int32 → Prop) (ht : TM z)  (hk : ∀ r : Int32, True → P r) : wp_X9_jobsThat b1 z P := by
  unfold wp_X9_jobsThat
  intro K3 hK_1
  have L_2 : ∀ (n : Nat) (v1 : Int32) (v2 : Int32), (0 ≤ v2.toInt) → (v2.toInt ≤ 16) → (16 - v2.toInt).toNat < n → K3 v1 v2 := by
    intro n
    induction n with
    | zero => intro v1 v2 w_3 w_4 m_6; omega
    | succ n ih_5 =>
      intro v1 v2 w_3 w_4 m_6
      refine hK_1 v1 v2 ?_
      refine ⟨fun c4 => ?_, fun c4 => ?_⟩
      · skip
        have f_7 : 0 ≤ (gI z 12).toInt ∧ (gI z 12).toInt ≤ 16 := ht.1 12
        have i_8 := i_le rfl rfl c4
        exact hk v1 trivial
      · skip
        have f_9 : 0 ≤ (gI z 12).toInt ∧ (gI z 12).toInt ≤ 16 := ht.1 12
        have i_10 := i_nle rfl rfl c4
        refine ⟨vin rfl (by omega) (by omega), ?_⟩
        intro K7 hK_11
        refine ⟨fun c10 => ?_, fun c10 => ?_⟩
        · skip
          have i_12 := i_ne rfl rfl c10
          refine hK_11 ((0 : Int32)) v1 ?_
          intro y_13 ey_13
          have iy_13 : y_13.toInt = (v1 + (0 : Int32)).toInt := by rw [ey_13]
          intro y_14 ey_14
          have iy_14 : y_14.toInt = (v2.toInt + (1)) := by rw [ey_14]; exact (a_add rfl (show (1 : Int32).toInt = 1 by decide) (by omega) (by omega))
          exact ih_5 y_13 y_14 (by omega) (by omega) (by omega)
        · skip
          have i_15 := i_eq rfl rfl c10
          refine hK_11 ((1 : Int32)) v1 ?_
          intro y_16 ey_16
          have iy_16 : y_16.toInt = (v1 + (1 : Int32)).toInt := by rw [ey_16]
          intro y_17 ey_17
          have iy_17 : y_17.toInt = (v2.toInt + (1)) := by rw [ey_17]; exact (a_add rfl (show (1 : Int32).toInt = 1 by decide) (by omega) (by omega))
          exact ih_5 y_16 y_17 (by omega) (by omega) (by omega)
  have g_18 : (0 : Int32).toInt = 0 := by decide
  have g_19 : (0 : Int32).toInt = 0 := by decide
  exact L_2 ((16 - (0 : Int32).toInt).toNat + 1) ((0 : Int32)) ((0 : Int32)) (by omega) (by omega) (by omega)

set_option maxHeartbeats 2000000 in
theorem s_X9_count (b1 : Int32) (z : St) (P : Int32 → St → Prop) (ht : TM z)  (hk : ∀ (r : Int32) (z2 : St), TM z2 → Same [0] [] z z2 → (True) → P r z2) : wp_X9_count b1 z P := by
  unfold wp_X9_count
  intro z1 ez1
  have tz1 : TM z1 := by rw [ez1]; exact Ty_wI ht trivial
  have oz1 : Same [0] [] z z1 := (Same.rf (z := z)).i (by decide) ez1
  refine ⟨fun c2_0 => ?_, fun c2_1 => ?_, fun c2_2 => ?_, fun c2_3 => ?_, fun c2_4 => ?_, fun c2_5 => ?_, fun c2_6 => ?_, fun c2_7 => ?_, fun c2_8 => ?_, fun c2_9 => ?_, fun c2_d => ?_⟩
  · skip
    have f_1 : 0 ≤ (gI z1 2).toInt ∧ (gI z1 2).toInt ≤ 167 := tz1.1 2
    have q_2 := (show (gI z1 2).toInt = (gI z 2).toInt by rw [ez1]; rfl)
    have f_3 : 0 ≤ (gI z 2).toInt ∧ (gI z 2).toInt ≤ 167 := ht.1 2
    exact hk (gI z1 2) z1 tz1 oz1 trivial
  · skip
    have f_4 : 0 ≤ (gI z1 8).toInt ∧ (gI z1 8).toInt ≤ 4 := tz1.1 8
    have q_5 := (show (gI z1 8).toInt = (gI z 8).toInt by rw [ez1]; rfl)
    have f_6 : 0 ≤ (gI z 8).toInt ∧ (gI z 8).toInt ≤ 4 := ht.1 8
    exact hk (gI z1 8) z1 tz1 oz1 trivial
  · skip
    have f_7 : 0 ≤ (gI z1 12).toInt ∧ (gI z1 12).toInt ≤ 16 := tz1.1 12
    have q_8 := (show (gI z1 12).toInt = (gI z 12).toInt by rw [ez1]; rfl)
    have f_9 : 0 ≤ (gI z 12).toInt ∧ (gI z 12).toInt ≤ 16 := ht.1 12
    exact hk (gI z1 12) z1 tz1 oz1 trivial
  · skip
    have f_10 : 0 ≤ (gI z1 3).toInt ∧ (gI z1 3).toInt ≤ 400 := tz1.1 3
    have q_11 := (show (gI z1 3).toInt = (gI z 3).toInt by rw [ez1]; rfl)
    have f_12 : 0 ≤ (gI z 3).toInt ∧ (gI z 3).toInt ≤ 400 := ht.1 3
    exact hk (gI z1 3) z1 tz1 oz1 trivial
  · skip
    have f_13 : 0 ≤ (gI z1 22).toInt ∧ (gI z1 22).toInt ≤ 20 := tz1.1 22
    have q_14 := (show (gI z1 22).toInt = (gI z 22).toInt by rw [ez1]; rfl)
    have f_15 : 0 ≤ (gI z 22).toInt ∧ (gI z 22).toInt ≤ 20 := ht.1 22
    exact hk (gI z1 22) z1 tz1 oz1 trivial
  · skip
    have f_16 : 0 ≤ (gI z1 43).toInt ∧ (gI z1 43).toInt ≤ 6 := tz1.1 43
    have q_17 := (show (gI z1 43).toInt = (gI z 43).toInt by rw [ez1]; rfl)
    have f_18 : 0 ≤ (gI z 43).toInt ∧ (gI z 43).toInt ≤ 6 := ht.1 43
    exact hk (gI z1 43) z1 tz1 oz1 trivial
  · skip
    have f_19 : 0 ≤ (gI z1 36).toInt ∧ (gI z1 36).toInt ≤ 300 := tz1.1 36
    have q_20 := (show (gI z1 36).toInt = (gI z 36).toInt by rw [ez1]; rfl)
    have f_21 : 0 ≤ (gI z 36).toInt ∧ (gI z 36).toInt ≤ 300 := ht.1 36
    exact hk (gI z1 36) z1 tz1 oz1 trivial
  · skip
    have g_22 : (0 : Int32).toInt = 0 := by decide
    refine s_X9_jobsThat ((0 : Int32)) z1 _ tz1  (fun r4 hp_23 => ?_)
    exact hk r4 z1 tz1 oz1 trivial
  · skip
    have g_24 : (1 : Int32).toInt = 1 := by decide
    refine s_X9_jobsThat ((1 : Int32)) z1 _ tz1  (fun r6 hp_25 => ?_)
    exact hk r6 z1 tz1 oz1 trivial
  · skip
    have g_26 : (2 : Int32).toInt = 2 := by decide
    refine s_X9_jobsThat ((2 : Int32)) z1 _ tz1  (fun r8 hp_27 => ?_)
    exact hk r8 z1 tz1 oz1 trivial
  · skip
    have g_28 : (-1 : Int32).toInt = -1 := by decide
    exact hk ((-1 : Int32)) z1 tz1 oz1 trivial

set_option maxHeartbeats 2000000 in
theorem s_X9_status  (z : St) (P : Int32 → St → Prop) (ht : TM z)  (hk : ∀ (r : Int32) (z2 : St), TM z2 → Same [0] [] z z2 → (True) → P r z2) : wp_X9_status  z P := by
  unfold wp_X9_status
  intro z1 ez1
  have tz1 : TM z1 := by rw [ez1]; exact Ty_wI ht trivial
  have oz1 : Same [0] [] z z1 := (Same.rf (z := z)).i (by decide) ez1
  have q_1 := (show (gI z1 1).toInt = (gI z 1).toInt by rw [ez1]; rfl)
  exact hk (gI z1 1) z1 tz1 oz1 trivial

