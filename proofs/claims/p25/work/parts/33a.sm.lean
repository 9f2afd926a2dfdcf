set_option maxHeartbeats 2000000 in
theorem s_X9_findLeast (b1 : Int32) (z : St) (P : St → Prop) (ht : TM z) (hrx : RM z) (h0 : 0 ≤ b1.toInt ∧ b1.toInt ≤ 5) (hk : ∀ (z2 : St), TM z2 → Same [] [] z z2 → RM z2 → (True) → P z2) : wp_X9_findLeast b1 z P := by
  unfold wp_X9_findLeast
  refine ⟨vin rfl (by omega) (by omega), ?_⟩
  intro z1 ez1
  have tz1 : TM z1 := by rw [ez1]; exact Ty_wL ht
  have oz1 : Same [] [] z z1 := (Same.rf (z := z)).l ez1
  have xz1 : RM z1 := by rw [ez1]; exact hrx
  intro K3 hK_1
  have L_2 : ∀ (n : Nat) (v2 : Int32) (z4 : St), TM z4 → Same [] [] z z4 → RM z4 → (-1 ≤ v2.toInt) → (v2.toInt ≤ 4) → (v2.toInt + 1).toNat < n → K3 v2 z4 := by
    intro n
    induction n with
    | zero => intro v2 z4 tz4 ocz4 xz4 w_3 w_4 m_6; omega
    | succ n ih_5 =>
      intro v2 z4 tz4 ocz4 xz4 w_3 w_4 m_6
      refine hK_1 v2 z4 ?_
      refine ⟨fun c5 => ?_, fun c5 => ?_⟩
      · skip
        have i_7 := i_lt rfl (show (0 : Int32).toInt = 0 by decide) c5
        exact hk z4 tz4 ocz4 xz4 trivial
      · skip
        have i_8 := i_nlt rfl (show (0 : Int32).toInt = 0 by decide) c5
        refine ⟨vin rfl (by omega) (by omega), ?_⟩
        intro x6 ex6
        have f_9 : 0 ≤ (gF z4 18 v2.toNatClampNeg).toInt ∧ (gF z4 18 v2.toNatClampNeg).toInt ≤ 15 := tz4.2 18 _
        have q_10 := (ocz4.ff 18 v2.toNatClampNeg (by decide))
        have f_11 : 0 ≤ (gF z 18 v2.toNatClampNeg).toInt ∧ (gF z 18 v2.toNatClampNeg).toInt ≤ 15 := ht.2 18 _
        have ix6 : x6.toInt = (gF z4 18 v2.toNatClampNeg).toInt := by rw [ex6]
        refine ⟨vin rfl (by omega) (by omega), ?_⟩
        intro K9 hK_12
        have L_13 : ∀ (n : Nat) (v7 : Int64) (v8 : Int32) (z10 : St), TM z10 → Same [] [] z z10 → RM z10 → (0 ≤ v8.toInt) → (v8.toInt ≤ 168) → ((gF z 7 x6.toNatClampNeg).toInt ≤ v8.toInt) → (168 - v8.toInt).toNat < n → K9 v7 v8 z10 := by
          intro n
          induction n with
          | zero => intro v7 v8 z10 tz10 ocz10 xz10 w_14 w_15 w_16 m_18; omega
          | succ n ih_17 =>
            intro v7 v8 z10 tz10 ocz10 xz10 w_14 w_15 w_16 m_18
            have f_19 : 0 ≤ (gF z 7 x6.toNatClampNeg).toInt ∧ (gF z 7 x6.toNatClampNeg).toInt ≤ 167 := ht.2 7 _
            have u_20 := hrx x6.toNatClampNeg
            have f_21 : 0 ≤ (gF z 8 x6.toNatClampNeg).toInt ∧ (gF z 8 x6.toNatClampNeg).toInt ≤ 167 := ht.2 8 _
            refine hK_12 v7 v8 z10 ?_
            refine ⟨vin rfl (by omega) (by omega), ?_⟩
            refine ⟨fun c11 => ?_, fun c11 => ?_⟩
            · skip
              have f_22 : 0 ≤ (gF z10 8 x6.toNatClampNeg).toInt ∧ (gF z10 8 x6.toNatClampNeg).toInt ≤ 167 := tz10.2 8 _
              have q_23 := (ocz10.ff 8 x6.toNatClampNeg (by decide))
              have u_24 := xz10 x6.toNatClampNeg
              have f_25 : 0 ≤ (gF z10 7 x6.toNatClampNeg).toInt ∧ (gF z10 7 x6.toNatClampNeg).toInt ≤ 167 := tz10.2 7 _
              have q_26 := (ocz10.ff 7 x6.toNatClampNeg (by decide))
              have i_27 := i_lt rfl rfl c11
              refine ⟨vin (a_add rfl (show (1 : Int32).toInt = 1 by decide) (by omega) (by omega)) (by omega) (by omega), ?_⟩
              refine ⟨vin rfl (by omega) (by omega), ?_⟩
              intro z12 ez12
              have tz12 : TM z12 := by rw [ez12]; exact Ty_wL tz10
              have oz12 : Same [] [] z z12 := ocz10.l ez12
              have xz12 : RM z12 := by rw [ez12]; exact xz10
              intro x13 ex13
              have ix13 : x13.toInt = (v2.toInt + (-1)) := by rw [ex13]; exact (a_add rfl (show (-1 : Int32).toInt = -1 by decide) (by omega) (by omega))
              exact ih_5 x13 z12 tz12 oz12 xz12 (by omega) (by omega) (by omega)
            · skip
              have f_28 : 0 ≤ (gF z10 8 x6.toNatClampNeg).toInt ∧ (gF z10 8 x6.toNatClampNeg).toInt ≤ 167 := tz10.2 8 _
              have q_29 := (ocz10.ff 8 x6.toNatClampNeg (by decide))
              have u_30 := xz10 x6.toNatClampNeg
              have f_31 : 0 ≤ (gF z10 7 x6.toNatClampNeg).toInt ∧ (gF z10 7 x6.toNatClampNeg).toInt ≤ 167 := tz10.2 7 _
              have q_32 := (ocz10.ff 7 x6.toNatClampNeg (by decide))
              have i_33 := i_nlt rfl rfl c11
              have f_34 : 0 ≤ (gI z10 2).toInt ∧ (gI z10 2).toInt ≤ 167 := tz10.1 2
              have q_35 := (ocz10.fi 2 (by decide))
              have f_36 : 0 ≤ (gI z 2).toInt ∧ (gI z 2).toInt ≤ 167 := ht.1 2
              refine s_X9_costAt x6 v8 (gI z10 2) z10 _ tz10 (by omega) (fun r15 hp_37 => ?_)
              refine ⟨vin rfl (by omega) (by omega), ?_⟩
              refine ⟨vin (a_sub (a_add (a_mul (show (24 : Int32).toInt = 24 by decide) rfl (by omega) (by omega)) rfl (by omega) (by omega)) rfl (by omega) (by omega)) (by omega) (by omega), ?_⟩
              intro z16 ez16
              have tz16 : TM z16 := by rw [ez16]; exact Ty_wL tz10
              have oz16 : Same [] [] z z16 := ocz10.l ez16
              have xz16 : RM z16 := by rw [ez16]; exact xz10
              refine ⟨vin rfl (by omega) (by omega), ?_⟩
              intro K18 hK_38
              intro K20 hK_39
              refine ⟨fun c21 => ?_, fun c21 => ?_⟩
              · skip
                have f_40 : 0 ≤ (gF z16 7 x6.toNatClampNeg).toInt ∧ (gF z16 7 x6.toNatClampNeg).toInt ≤ 167 := tz16.2 7 _
                have q_41 := ((show (gF z16 7 x6.toNatClampNeg).toInt = (gF z10 7 x6.toNatClampNeg).toInt by rw [ez16]; rfl)).trans (ocz10.ff 7 x6.toNatClampNeg (by decide))
                have u_42 := xz16 x6.toNatClampNeg
                have f_43 : 0 ≤ (gF z16 8 x6.toNatClampNeg).toInt ∧ (gF z16 8 x6.toNatClampNeg).toInt ≤ 167 := tz16.2 8 _
                have q_44 := ((show (gF z16 8 x6.toNatClampNeg).toInt = (gF z10 8 x6.toNatClampNeg).toInt by rw [ez16]; rfl)).trans (ocz10.ff 8 x6.toNatClampNeg (by decide))
                have i_45 := i_eq rfl rfl c21
                refine hK_39  ?_
                refine hK_38 r15 ?_
                intro y_46 ey_46
                have iy_46 : y_46.toInt = (v8.toInt + (1)) := by rw [ey_46]; exact (a_add rfl (show (1 : Int32).toInt = 1 by decide) (by omega) (by omega))
                exact ih_17 r15 y_46 z16 tz16 oz16 xz16 (by omega) (by omega) (by omega) (by omega)
              · skip
                have f_47 : 0 ≤ (gF z16 7 x6.toNatClampNeg).toInt ∧ (gF z16 7 x6.toNatClampNeg).toInt ≤ 167 := tz16.2 7 _
                have q_48 := ((show (gF z16 7 x6.toNatClampNeg).toInt = (gF z10 7 x6.toNatClampNeg).toInt by rw [ez16]; rfl)).trans (ocz10.ff 7 x6.toNatClampNeg (by decide))
                have u_49 := xz16 x6.toNatClampNeg
                have f_50 : 0 ≤ (gF z16 8 x6.toNatClampNeg).toInt ∧ (gF z16 8 x6.toNatClampNeg).toInt ≤ 167 := tz16.2 8 _
                have q_51 := ((show (gF z16 8 x6.toNatClampNeg).toInt = (gF z10 8 x6.toNatClampNeg).toInt by rw [ez16]; rfl)).trans (ocz10.ff 8 x6.toNatClampNeg (by decide))
                have i_52 := i_ne rfl rfl c21
                refine ⟨fun c22 => ?_, fun c22 => ?_⟩
                · skip
                  refine hK_38 v7 ?_
                  intro y_53 ey_53
                  have iy_53 : y_53.toInt = (v8.toInt + (1)) := by rw [ey_53]; exact (a_add rfl (show (1 : Int32).toInt = 1 by decide) (by omega) (by omega))
                  exact ih_17 v7 y_53 z16 tz16 oz16 xz16 (by omega) (by omega) (by omega) (by omega)
                · skip
                  refine hK_39  ?_
                  refine hK_38 r15 ?_
                  intro y_54 ey_54
                  have iy_54 : y_54.toInt = (v8.toInt + (1)) := by rw [ey_54]; exact (a_add rfl (show (1 : Int32).toInt = 1 by decide) (by omega) (by omega))
                  exact ih_17 r15 y_54 z16 tz16 oz16 xz16 (by omega) (by omega) (by omega) (by omega)
        intro x23 ex23
        have f_55 : 0 ≤ (gF z4 7 x6.toNatClampNeg).toInt ∧ (gF z4 7 x6.toNatClampNeg).toInt ≤ 167 := tz4.2 7 _
        have q_56 := (ocz4.ff 7 x6.toNatClampNeg (by decide))
        have f_57 : 0 ≤ (gF z 7 x6.toNatClampNeg).toInt ∧ (gF z 7 x6.toNatClampNeg).toInt ≤ 167 := ht.2 7 _
        have u_58 := hrx x6.toNatClampNeg
        have f_59 : 0 ≤ (gF z 8 x6.toNatClampNeg).toInt ∧ (gF z 8 x6.toNatClampNeg).toInt ≤ 167 := ht.2 8 _
        have u_60 := xz4 x6.toNatClampNeg
        have f_61 : 0 ≤ (gF z4 8 x6.toNatClampNeg).toInt ∧ (gF z4 8 x6.toNatClampNeg).toInt ≤ 167 := tz4.2 8 _
        have q_62 := (ocz4.ff 8 x6.toNatClampNeg (by decide))
        have ix23 : x23.toInt = (gF z4 7 x6.toNatClampNeg).toInt := by rw [ex23]
        exact L_13 ((168 - x23.toInt).toNat + 1) ((0 : Int64)) x23 z4 tz4 ocz4 xz4 (by omega) (by omega) (by omega) (by omega)
  intro x24 ex24
  have ix24 : x24.toInt = (b1.toInt - (1)) := by rw [ex24]; exact (a_sub rfl (show (1 : Int32).toInt = 1 by decide) (by omega) (by omega))
  exact L_2 ((x24.toInt + 1).toNat + 1) x24 z1 tz1 oz1 xz1 (by omega) (by omega) (by omega)
