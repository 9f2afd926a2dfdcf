set_option maxHeartbeats 2000000 in
theorem s_X6_matchPair_34 (b1 : Int32) (b2 : Int32) (z : St) (P : St → Prop) (ht : TX z) (hrx : FS z) (h0 : 0 ≤ b1.toInt ∧ b1.toInt ≤ 4) (h1 : 0 ≤ b2.toInt ∧ b2.toInt ≤ 4) (hk : ∀ (z2 : St), TX z2 → Same [] [29] z z2 → FS z2 → (True) → P z2) : wp_X6_matchPair_34 b1 b2 z P := by
  unfold wp_X6_matchPair_34
  refine ⟨vin rfl (by omega) (by omega), ?_⟩
  refine ⟨vin rfl (by omega) (by omega), ?_⟩
  have f_1 : 0 ≤ (gF z 23 b1.toNatClampNeg).toInt ∧ (gF z 23 b1.toNatClampNeg).toInt ≤ 15 := ht.2 23 _
  have f_2 : 0 ≤ (gF z 23 b2.toNatClampNeg).toInt ∧ (gF z 23 b2.toNatClampNeg).toInt ≤ 15 := ht.2 23 _
  refine s_X5_isBefore_c34 (gF z 23 b1.toNatClampNeg) (gF z 23 b2.toNatClampNeg) z _ ht (by omega) (fun r2 hp_3 => ?_)
  rcases hp_3 with ⟨er2, hp_3⟩ | ⟨er2, hp_3⟩
  · subst er2
    refine ⟨vin rfl (by omega) (by omega), ?_⟩
    refine ⟨vin rfl (by omega) (by omega), ?_⟩
    refine s_X5_isBefore_c34 (gF z 23 b2.toNatClampNeg) (gF z 23 b1.toNatClampNeg) z _ ht (by omega) (fun r4 hp_4 => ?_)
    rcases hp_4 with ⟨er4, hp_4⟩ | ⟨er4, hp_4⟩
    · subst er4
      intro K6 hK_5
      have L_6 : ∀ (n : Nat) (v5 : Int32) (z7 : St), TX z7 → Same [] [29] z z7 → FS z7 → (0 ≤ v5.toInt) → (v5.toInt ≤ 24) → (24 - v5.toInt).toNat < n → K6 v5 z7 := by
        intro n
        induction n with
        | zero => intro v5 z7 tz7 ocz7 xz7 w_7 w_8 m_10; omega
        | succ n ih_9 =>
          intro v5 z7 tz7 ocz7 xz7 w_7 w_8 m_10
          refine hK_5 v5 z7 ?_
          refine ⟨vin rfl (by omega) (by omega), ?_⟩
          refine ⟨fun c8 => ?_, fun c8 => ?_⟩
          · skip
            have f_11 : 0 ≤ (gF z7 25 b1.toNatClampNeg).toInt ∧ (gF z7 25 b1.toNatClampNeg).toInt ≤ 24 := tz7.2 25 _
            have q_12 := (ocz7.ff 25 b1.toNatClampNeg (by decide))
            have f_13 : 0 ≤ (gF z 25 b1.toNatClampNeg).toInt ∧ (gF z 25 b1.toNatClampNeg).toInt ≤ 24 := ht.2 25 _
            have i_14 := i_le rfl rfl c8
            exact hk z7 tz7 ocz7 xz7 trivial
          · skip
            have f_15 : 0 ≤ (gF z7 25 b1.toNatClampNeg).toInt ∧ (gF z7 25 b1.toNatClampNeg).toInt ≤ 24 := tz7.2 25 _
            have q_16 := (ocz7.ff 25 b1.toNatClampNeg (by decide))
            have f_17 : 0 ≤ (gF z 25 b1.toNatClampNeg).toInt ∧ (gF z 25 b1.toNatClampNeg).toInt ≤ 24 := ht.2 25 _
            have i_18 := i_nle rfl rfl c8
            refine ⟨vin (a_add (a_mul rfl (show (24 : Int32).toInt = 24 by decide) (by omega) (by omega)) rfl (by omega) (by omega)) (by omega) (by omega), ?_⟩
            intro x9 ex9
            have f_19 : 0 ≤ (gF z7 26 ((b1 * (24 : Int32)) + v5).toNatClampNeg).toInt ∧ (gF z7 26 ((b1 * (24 : Int32)) + v5).toNatClampNeg).toInt ≤ 23 := tz7.2 26 _
            have q_20 := (ocz7.ff 26 ((b1 * (24 : Int32)) + v5).toNatClampNeg (by decide))
            have f_21 : 0 ≤ (gF z 26 ((b1 * (24 : Int32)) + v5).toNatClampNeg).toInt ∧ (gF z 26 ((b1 * (24 : Int32)) + v5).toNatClampNeg).toInt ≤ 23 := ht.2 26 _
            have u_22 := FS_at hrx (i := b1) (a := v5) (x := ((b1 * (24 : Int32)) + v5)) (by have hx : ((b1 * (24 : Int32)) + v5).toInt = ((b1.toInt * (24)) + v5.toInt) := (a_add (a_mul rfl (show (24 : Int32).toInt = 24 by decide) (by omega) (by omega)) rfl (by omega) (by omega)); omega) (by omega) (by omega) (by omega) (by omega)
            have f_23 : 0 ≤ (gF z 15 (gF z 23 b1.toNatClampNeg).toNatClampNeg).toInt ∧ (gF z 15 (gF z 23 b1.toNatClampNeg).toNatClampNeg).toInt ≤ 167 := ht.2 15 _
            have f_24 : 0 ≤ (gF z 17 (gF z 23 b1.toNatClampNeg).toNatClampNeg).toInt ∧ (gF z 17 (gF z 23 b1.toNatClampNeg).toNatClampNeg).toInt ≤ 4 := ht.2 17 _
            have f_26 : 0 ≤ (gF z7 23 b1.toNatClampNeg).toInt ∧ (gF z7 23 b1.toNatClampNeg).toInt ≤ 15 := tz7.2 23 _
            have q_27 := (ocz7.ff 23 b1.toNatClampNeg (by decide))
            have u_25 := FS_at xz7 (i := b1) (a := v5) (x := ((b1 * (24 : Int32)) + v5)) (by have hx : ((b1 * (24 : Int32)) + v5).toInt = ((b1.toInt * (24)) + v5.toInt) := (a_add (a_mul rfl (show (24 : Int32).toInt = 24 by decide) (by omega) (by omega)) rfl (by omega) (by omega)); omega) (by omega) (by omega) (by omega) (by omega)
            have f_28 : 0 ≤ (gF z7 15 (gF z7 23 b1.toNatClampNeg).toNatClampNeg).toInt ∧ (gF z7 15 (gF z7 23 b1.toNatClampNeg).toNatClampNeg).toInt ≤ 167 := tz7.2 15 _
            have q_29 := (ocz7.ff 15 (gF z7 23 b1.toNatClampNeg).toNatClampNeg (by decide))
            have f_30 : 0 ≤ (gF z 15 (gF z7 23 b1.toNatClampNeg).toNatClampNeg).toInt ∧ (gF z 15 (gF z7 23 b1.toNatClampNeg).toNatClampNeg).toInt ≤ 167 := ht.2 15 _
            have cn_31 : (gF z7 15 (gF z7 23 b1.toNatClampNeg).toNatClampNeg).toInt = (gF z 15 (gF z 23 b1.toNatClampNeg).toNatClampNeg).toInt := by rw [ocz7.2 15 (by decide), ocz7.2 23 (by decide)]
            have f_32 : 0 ≤ (gF z7 17 (gF z7 23 b1.toNatClampNeg).toNatClampNeg).toInt ∧ (gF z7 17 (gF z7 23 b1.toNatClampNeg).toNatClampNeg).toInt ≤ 4 := tz7.2 17 _
            have q_33 := (ocz7.ff 17 (gF z7 23 b1.toNatClampNeg).toNatClampNeg (by decide))
            have f_34 : 0 ≤ (gF z 17 (gF z7 23 b1.toNatClampNeg).toNatClampNeg).toInt ∧ (gF z 17 (gF z7 23 b1.toNatClampNeg).toNatClampNeg).toInt ≤ 4 := ht.2 17 _
            have cn_35 : (gF z7 17 (gF z7 23 b1.toNatClampNeg).toNatClampNeg).toInt = (gF z 17 (gF z 23 b1.toNatClampNeg).toNatClampNeg).toInt := by rw [ocz7.2 17 (by decide), ocz7.2 23 (by decide)]
            have ix9 : x9.toInt = (gF z7 26 ((b1 * (24 : Int32)) + v5).toNatClampNeg).toInt := by rw [ex9]
            refine ⟨vin rfl (by omega) (by omega), ?_⟩
            refine ⟨vin rfl (by omega) (by omega), ?_⟩
            intro x10 ex10
            have ix10 : x10.toInt = ((gF z7 15 (gF z7 23 b1.toNatClampNeg).toNatClampNeg).toInt + x9.toInt) := by rw [ex10]; exact (a_add rfl rfl (by omega) (by omega))
            refine ⟨vin rfl (by omega) (by omega), ?_⟩
            refine ⟨vin rfl (by omega) (by omega), ?_⟩
            intro x11 ex11
            have ix11 : x11.toInt = (x10.toInt + (gF z7 17 (gF z7 23 b1.toNatClampNeg).toNatClampNeg).toInt) := by rw [ex11]; exact (a_add rfl rfl (by omega) (by omega))
            intro K13 hK_36
            have L_37 : ∀ (n : Nat) (v12 : Int32) (z14 : St), TX z14 → Same [] [29] z z14 → FS z14 → (0 ≤ v12.toInt) → (v12.toInt ≤ 24) → (24 - v12.toInt).toNat < n → K13 v12 z14 := by
              intro n
              induction n with
              | zero => intro v12 z14 tz14 ocz14 xz14 w_38 w_39 m_41; omega
              | succ n ih_40 =>
                intro v12 z14 tz14 ocz14 xz14 w_38 w_39 m_41
                refine hK_36 v12 z14 ?_
                refine ⟨vin rfl (by omega) (by omega), ?_⟩
                refine ⟨fun c15 => ?_, fun c15 => ?_⟩
                · skip
                  have f_42 : 0 ≤ (gF z14 25 b2.toNatClampNeg).toInt ∧ (gF z14 25 b2.toNatClampNeg).toInt ≤ 24 := tz14.2 25 _
                  have q_43 := (ocz14.ff 25 b2.toNatClampNeg (by decide))
                  have f_44 : 0 ≤ (gF z 25 b2.toNatClampNeg).toInt ∧ (gF z 25 b2.toNatClampNeg).toInt ≤ 24 := ht.2 25 _
                  have i_45 := i_le rfl rfl c15
                  intro x16 ex16
                  have ix16 : x16.toInt = (v5.toInt + (1)) := by rw [ex16]; exact (a_add rfl (show (1 : Int32).toInt = 1 by decide) (by omega) (by omega))
                  exact ih_9 x16 z14 tz14 ocz14 xz14 (by omega) (by omega) (by omega)
                · skip
                  have f_46 : 0 ≤ (gF z14 25 b2.toNatClampNeg).toInt ∧ (gF z14 25 b2.toNatClampNeg).toInt ≤ 24 := tz14.2 25 _
                  have q_47 := (ocz14.ff 25 b2.toNatClampNeg (by decide))
                  have f_48 : 0 ≤ (gF z 25 b2.toNatClampNeg).toInt ∧ (gF z 25 b2.toNatClampNeg).toInt ≤ 24 := ht.2 25 _
                  have i_49 := i_nle rfl rfl c15
                  refine ⟨vin (a_add (a_mul rfl (show (24 : Int32).toInt = 24 by decide) (by omega) (by omega)) rfl (by omega) (by omega)) (by omega) (by omega), ?_⟩
                  intro x17 ex17
                  have f_50 : 0 ≤ (gF z14 26 ((b2 * (24 : Int32)) + v12).toNatClampNeg).toInt ∧ (gF z14 26 ((b2 * (24 : Int32)) + v12).toNatClampNeg).toInt ≤ 23 := tz14.2 26 _
                  have q_51 := (ocz14.ff 26 ((b2 * (24 : Int32)) + v12).toNatClampNeg (by decide))
                  have f_52 : 0 ≤ (gF z 26 ((b2 * (24 : Int32)) + v12).toNatClampNeg).toInt ∧ (gF z 26 ((b2 * (24 : Int32)) + v12).toNatClampNeg).toInt ≤ 23 := ht.2 26 _
                  have u_53 := FS_at hrx (i := b2) (a := v12) (x := ((b2 * (24 : Int32)) + v12)) (by have hx : ((b2 * (24 : Int32)) + v12).toInt = ((b2.toInt * (24)) + v12.toInt) := (a_add (a_mul rfl (show (24 : Int32).toInt = 24 by decide) (by omega) (by omega)) rfl (by omega) (by omega)); omega) (by omega) (by omega) (by omega) (by omega)
                  have f_54 : 0 ≤ (gF z 15 (gF z 23 b2.toNatClampNeg).toNatClampNeg).toInt ∧ (gF z 15 (gF z 23 b2.toNatClampNeg).toNatClampNeg).toInt ≤ 167 := ht.2 15 _
                  have f_55 : 0 ≤ (gF z 17 (gF z 23 b2.toNatClampNeg).toNatClampNeg).toInt ∧ (gF z 17 (gF z 23 b2.toNatClampNeg).toNatClampNeg).toInt ≤ 4 := ht.2 17 _
                  have f_57 : 0 ≤ (gF z14 23 b2.toNatClampNeg).toInt ∧ (gF z14 23 b2.toNatClampNeg).toInt ≤ 15 := tz14.2 23 _
                  have q_58 := (ocz14.ff 23 b2.toNatClampNeg (by decide))
                  have u_56 := FS_at xz14 (i := b2) (a := v12) (x := ((b2 * (24 : Int32)) + v12)) (by have hx : ((b2 * (24 : Int32)) + v12).toInt = ((b2.toInt * (24)) + v12.toInt) := (a_add (a_mul rfl (show (24 : Int32).toInt = 24 by decide) (by omega) (by omega)) rfl (by omega) (by omega)); omega) (by omega) (by omega) (by omega) (by omega)
                  have f_59 : 0 ≤ (gF z14 15 (gF z14 23 b2.toNatClampNeg).toNatClampNeg).toInt ∧ (gF z14 15 (gF z14 23 b2.toNatClampNeg).toNatClampNeg).toInt ≤ 167 := tz14.2 15 _
                  have q_60 := (ocz14.ff 15 (gF z14 23 b2.toNatClampNeg).toNatClampNeg (by decide))
                  have f_61 : 0 ≤ (gF z 15 (gF z14 23 b2.toNatClampNeg).toNatClampNeg).toInt ∧ (gF z 15 (gF z14 23 b2.toNatClampNeg).toNatClampNeg).toInt ≤ 167 := ht.2 15 _
                  have cn_62 : (gF z14 15 (gF z14 23 b2.toNatClampNeg).toNatClampNeg).toInt = (gF z 15 (gF z 23 b2.toNatClampNeg).toNatClampNeg).toInt := by rw [ocz14.2 15 (by decide), ocz14.2 23 (by decide)]
                  have f_63 : 0 ≤ (gF z14 17 (gF z14 23 b2.toNatClampNeg).toNatClampNeg).toInt ∧ (gF z14 17 (gF z14 23 b2.toNatClampNeg).toNatClampNeg).toInt ≤ 4 := tz14.2 17 _
                  have q_64 := (ocz14.ff 17 (gF z14 23 b2.toNatClampNeg).toNatClampNeg (by decide))
                  have f_65 : 0 ≤ (gF z 17 (gF z14 23 b2.toNatClampNeg).toNatClampNeg).toInt ∧ (gF z 17 (gF z14 23 b2.toNatClampNeg).toNatClampNeg).toInt ≤ 4 := ht.2 17 _
                  have cn_66 : (gF z14 17 (gF z14 23 b2.toNatClampNeg).toNatClampNeg).toInt = (gF z 17 (gF z 23 b2.toNatClampNeg).toNatClampNeg).toInt := by rw [ocz14.2 17 (by decide), ocz14.2 23 (by decide)]
                  have ix17 : x17.toInt = (gF z14 26 ((b2 * (24 : Int32)) + v12).toNatClampNeg).toInt := by rw [ex17]
                  refine ⟨vin rfl (by omega) (by omega), ?_⟩
                  refine ⟨vin rfl (by omega) (by omega), ?_⟩
                  intro x18 ex18
                  have ix18 : x18.toInt = ((gF z14 15 (gF z14 23 b2.toNatClampNeg).toNatClampNeg).toInt + x17.toInt) := by rw [ex18]; exact (a_add rfl rfl (by omega) (by omega))
                  refine ⟨vin rfl (by omega) (by omega), ?_⟩
                  refine ⟨vin rfl (by omega) (by omega), ?_⟩
                  intro x19 ex19
                  have ix19 : x19.toInt = (x18.toInt + (gF z14 17 (gF z14 23 b2.toNatClampNeg).toNatClampNeg).toInt) := by rw [ex19]; exact (a_add rfl rfl (by omega) (by omega))
                  intro K20 hK_67
                  intro K23 hK_68
                  refine ⟨fun hc => absurd hc (by decide), fun _ => ?_⟩
                  refine ⟨fun c36 => ?_, fun c36 => ?_⟩
                  · skip
                    have i_69 := i_lt rfl rfl c36
                    refine hK_67 z14 ?_
                    intro y_70 ey_70
                    have iy_70 : y_70.toInt = (v12.toInt + (1)) := by rw [ey_70]; exact (a_add rfl (show (1 : Int32).toInt = 1 by decide) (by omega) (by omega))
                    exact ih_40 y_70 z14 tz14 ocz14 xz14 (by omega) (by omega) (by omega)
                  · skip
                    have i_71 := i_nlt rfl rfl c36
                    refine hK_68  ?_
                    intro K_72 hK_82
                    refine ⟨fun hc => absurd hc (by decide), fun _ => ?_⟩
                    refine ⟨fun c_81 => ?_, fun c_81 => ?_⟩
                    · skip
                      have i_83 := i_le rfl rfl c_81
                      refine hK_82  ?_
                      intro K_84 hK_91
                      refine ⟨fun c_87 => ?_, fun c_87 => ?_⟩
                      · skip
                        have i_92 := i_le rfl rfl c_87
                        refine hK_91  ?_
                        refine ⟨vin (a_add (a_mul (a_add (a_mul rfl (show (24 : Int32).toInt = 24 by decide) (by omega) (by omega)) rfl (by omega) (by omega)) (show (5 : Int32).toInt = 5 by decide) (by omega) (by omega)) rfl (by omega) (by omega)) (by omega) (by omega), ?_⟩
                        refine ⟨vin (a_add (a_mul (a_add (a_mul rfl (show (24 : Int32).toInt = 24 by decide) (by omega) (by omega)) rfl (by omega) (by omega)) (show (5 : Int32).toInt = 5 by decide) (by omega) (by omega)) rfl (by omega) (by omega)) (by omega) (by omega), ?_⟩
                        intro z_93 ez_93
                        have tz_93 : TX z_93 := by rw [ez_93]; exact Ty_wR tz14 trivial
                        have oz_93 : Same [] [29] z z_93 := ocz14.r (by decide) ez_93
                        have xz_93 : FS z_93 := by rw [ez_93]; exact xz14
                        refine ⟨vin (a_add (a_mul (a_add (a_mul rfl (show (24 : Int32).toInt = 24 by decide) (by omega) (by omega)) rfl (by omega) (by omega)) (show (5 : Int32).toInt = 5 by decide) (by omega) (by omega)) rfl (by omega) (by omega)) (by omega) (by omega), ?_⟩
                        refine ⟨vin (a_add (a_mul (a_add (a_mul rfl (show (24 : Int32).toInt = 24 by decide) (by omega) (by omega)) rfl (by omega) (by omega)) (show (5 : Int32).toInt = 5 by decide) (by omega) (by omega)) rfl (by omega) (by omega)) (by omega) (by omega), ?_⟩
                        intro z_94 ez_94
                        have tz_94 : TX z_94 := by rw [ez_94]; exact Ty_wR tz_93 trivial
                        have oz_94 : Same [] [29] z z_94 := oz_93.r (by decide) ez_94
                        have xz_94 : FS z_94 := by rw [ez_94]; exact xz_93
                        refine hK_67 z_94 ?_
                        intro y_95 ey_95
                        have iy_95 : y_95.toInt = (v12.toInt + (1)) := by rw [ey_95]; exact (a_add rfl (show (1 : Int32).toInt = 1 by decide) (by omega) (by omega))
                        exact ih_40 y_95 z_94 tz_94 oz_94 xz_94 (by omega) (by omega) (by omega)
                      · skip
                        have i_96 := i_nle rfl rfl c_87
                        refine ⟨fun c_88 => ?_, fun c_88 => ?_⟩
                        · skip
                          have i_97 := i_le rfl rfl c_88
                          refine hK_91  ?_
                          refine ⟨vin (a_add (a_mul (a_add (a_mul rfl (show (24 : Int32).toInt = 24 by decide) (by omega) (by omega)) rfl (by omega) (by omega)) (show (5 : Int32).toInt = 5 by decide) (by omega) (by omega)) rfl (by omega) (by omega)) (by omega) (by omega), ?_⟩
                          refine ⟨vin (a_add (a_mul (a_add (a_mul rfl (show (24 : Int32).toInt = 24 by decide) (by omega) (by omega)) rfl (by omega) (by omega)) (show (5 : Int32).toInt = 5 by decide) (by omega) (by omega)) rfl (by omega) (by omega)) (by omega) (by omega), ?_⟩
                          intro z_98 ez_98
                          have tz_98 : TX z_98 := by rw [ez_98]; exact Ty_wR tz14 trivial
                          have oz_98 : Same [] [29] z z_98 := ocz14.r (by decide) ez_98
                          have xz_98 : FS z_98 := by rw [ez_98]; exact xz14
                          refine ⟨vin (a_add (a_mul (a_add (a_mul rfl (show (24 : Int32).toInt = 24 by decide) (by omega) (by omega)) rfl (by omega) (by omega)) (show (5 : Int32).toInt = 5 by decide) (by omega) (by omega)) rfl (by omega) (by omega)) (by omega) (by omega), ?_⟩
                          refine ⟨vin (a_add (a_mul (a_add (a_mul rfl (show (24 : Int32).toInt = 24 by decide) (by omega) (by omega)) rfl (by omega) (by omega)) (show (5 : Int32).toInt = 5 by decide) (by omega) (by omega)) rfl (by omega) (by omega)) (by omega) (by omega), ?_⟩
                          intro z_99 ez_99
                          have tz_99 : TX z_99 := by rw [ez_99]; exact Ty_wR tz_98 trivial
                          have oz_99 : Same [] [29] z z_99 := oz_98.r (by decide) ez_99
                          have xz_99 : FS z_99 := by rw [ez_99]; exact xz_98
                          refine hK_67 z_99 ?_
                          intro y_100 ey_100
                          have iy_100 : y_100.toInt = (v12.toInt + (1)) := by rw [ey_100]; exact (a_add rfl (show (1 : Int32).toInt = 1 by decide) (by omega) (by omega))
                          exact ih_40 y_100 z_99 tz_99 oz_99 xz_99 (by omega) (by omega) (by omega)
                        · skip
                          have i_101 := i_nle rfl rfl c_88
                          refine ⟨vin rfl (by omega) (by omega), ?_⟩
                          refine ⟨vin rfl (by omega) (by omega), ?_⟩
                          have f_102 : 0 ≤ (gF z14 23 b1.toNatClampNeg).toInt ∧ (gF z14 23 b1.toNatClampNeg).toInt ≤ 15 := tz14.2 23 _
                          have q_103 := (ocz14.ff 23 b1.toNatClampNeg (by decide))
                          have f_104 : 0 ≤ (gF z14 17 (gF z14 23 b1.toNatClampNeg).toNatClampNeg).toInt ∧ (gF z14 17 (gF z14 23 b1.toNatClampNeg).toNatClampNeg).toInt ≤ 4 := tz14.2 17 _
                          have q_105 := (ocz14.ff 17 (gF z14 23 b1.toNatClampNeg).toNatClampNeg (by decide))
                          have f_106 : 0 ≤ (gF z 17 (gF z14 23 b1.toNatClampNeg).toNatClampNeg).toInt ∧ (gF z 17 (gF z14 23 b1.toNatClampNeg).toNatClampNeg).toInt ≤ 4 := ht.2 17 _
                          have cn_107 : (gF z14 17 (gF z14 23 b1.toNatClampNeg).toNatClampNeg).toInt = (gF z 17 (gF z 23 b1.toNatClampNeg).toNatClampNeg).toInt := by rw [ocz14.2 17 (by decide), ocz14.2 23 (by decide)]
                          refine s_X6_areBorne (gF z14 23 b1.toNatClampNeg) x10 (gF z14 23 b2.toNatClampNeg) x18 z14 _ tz14 (by omega) (by omega) (by omega) (by omega) (by omega) (by omega) (fun r_89 hp_108 => ?_)
                          rcases hp_108 with ⟨er_89, hp_108⟩ | ⟨er_89, hp_108⟩
                          · subst er_89
                            refine ⟨fun hc => absurd hc (by decide), fun _ => ?_⟩
                            refine hK_91  ?_
                            refine ⟨vin (a_add (a_mul (a_add (a_mul rfl (show (24 : Int32).toInt = 24 by decide) (by omega) (by omega)) rfl (by omega) (by omega)) (show (5 : Int32).toInt = 5 by decide) (by omega) (by omega)) rfl (by omega) (by omega)) (by omega) (by omega), ?_⟩
                            refine ⟨vin (a_add (a_mul (a_add (a_mul rfl (show (24 : Int32).toInt = 24 by decide) (by omega) (by omega)) rfl (by omega) (by omega)) (show (5 : Int32).toInt = 5 by decide) (by omega) (by omega)) rfl (by omega) (by omega)) (by omega) (by omega), ?_⟩
                            intro z_109 ez_109
                            have tz_109 : TX z_109 := by rw [ez_109]; exact Ty_wR tz14 trivial
                            have oz_109 : Same [] [29] z z_109 := ocz14.r (by decide) ez_109
                            have xz_109 : FS z_109 := by rw [ez_109]; exact xz14
                            refine ⟨vin (a_add (a_mul (a_add (a_mul rfl (show (24 : Int32).toInt = 24 by decide) (by omega) (by omega)) rfl (by omega) (by omega)) (show (5 : Int32).toInt = 5 by decide) (by omega) (by omega)) rfl (by omega) (by omega)) (by omega) (by omega), ?_⟩
                            refine ⟨vin (a_add (a_mul (a_add (a_mul rfl (show (24 : Int32).toInt = 24 by decide) (by omega) (by omega)) rfl (by omega) (by omega)) (show (5 : Int32).toInt = 5 by decide) (by omega) (by omega)) rfl (by omega) (by omega)) (by omega) (by omega), ?_⟩
                            intro z_110 ez_110
                            have tz_110 : TX z_110 := by rw [ez_110]; exact Ty_wR tz_109 trivial
                            have oz_110 : Same [] [29] z z_110 := oz_109.r (by decide) ez_110
                            have xz_110 : FS z_110 := by rw [ez_110]; exact xz_109
                            refine hK_67 z_110 ?_
                            intro y_111 ey_111
                            have iy_111 : y_111.toInt = (v12.toInt + (1)) := by rw [ey_111]; exact (a_add rfl (show (1 : Int32).toInt = 1 by decide) (by omega) (by omega))
                            exact ih_40 y_111 z_110 tz_110 oz_110 xz_110 (by omega) (by omega) (by omega)
                          · subst er_89
                            refine ⟨fun _ => ?_, fun hc => absurd (show ((0 : Int32)) = ((0 : Int32)) by decide) hc⟩
                            refine hK_67 z14 ?_
                            intro y_112 ey_112
                            have iy_112 : y_112.toInt = (v12.toInt + (1)) := by rw [ey_112]; exact (a_add rfl (show (1 : Int32).toInt = 1 by decide) (by omega) (by omega))
                            exact ih_40 y_112 z14 tz14 ocz14 xz14 (by omega) (by omega) (by omega)
                    · skip
                      have i_113 := i_nle rfl rfl c_81
                      refine hK_67 z14 ?_
                      intro y_114 ey_114
                      have iy_114 : y_114.toInt = (v12.toInt + (1)) := by rw [ey_114]; exact (a_add rfl (show (1 : Int32).toInt = 1 by decide) (by omega) (by omega))
                      exact ih_40 y_114 z14 tz14 ocz14 xz14 (by omega) (by omega) (by omega)
            have g_115 : (0 : Int32).toInt = 0 := by decide
            exact L_37 ((24 - (0 : Int32).toInt).toNat + 1) ((0 : Int32)) z7 tz7 ocz7 xz7 (by omega) (by omega) (by omega)
      have g_116 : (0 : Int32).toInt = 0 := by decide
      exact L_6 ((24 - (0 : Int32).toInt).toNat + 1) ((0 : Int32)) z ht (Same.rf (z := z)) hrx (by omega) (by omega) (by omega)
    · subst er4
      intro K6 hK_117
      have L_118 : ∀ (n : Nat) (v5 : Int32) (z7 : St), TX z7 → Same [] [29] z z7 → FS z7 → (0 ≤ v5.toInt) → (v5.toInt ≤ 24) → (24 - v5.toInt).toNat < n → K6 v5 z7 := by
        intro n
        induction n with
        | zero => intro v5 z7 tz7 ocz7 xz7 w_119 w_120 m_122; omega
        | succ n ih_121 =>
          intro v5 z7 tz7 ocz7 xz7 w_119 w_120 m_122
          refine hK_117 v5 z7 ?_
          refine ⟨vin rfl (by omega) (by omega), ?_⟩
          refine ⟨fun c8 => ?_, fun c8 => ?_⟩
          · skip
            have f_123 : 0 ≤ (gF z7 25 b1.toNatClampNeg).toInt ∧ (gF z7 25 b1.toNatClampNeg).toInt ≤ 24 := tz7.2 25 _
            have q_124 := (ocz7.ff 25 b1.toNatClampNeg (by decide))
            have f_125 : 0 ≤ (gF z 25 b1.toNatClampNeg).toInt ∧ (gF z 25 b1.toNatClampNeg).toInt ≤ 24 := ht.2 25 _
            have i_126 := i_le rfl rfl c8
            exact hk z7 tz7 ocz7 xz7 trivial
          · skip
            have f_127 : 0 ≤ (gF z7 25 b1.toNatClampNeg).toInt ∧ (gF z7 25 b1.toNatClampNeg).toInt ≤ 24 := tz7.2 25 _
            have q_128 := (ocz7.ff 25 b1.toNatClampNeg (by decide))
            have f_129 : 0 ≤ (gF z 25 b1.toNatClampNeg).toInt ∧ (gF z 25 b1.toNatClampNeg).toInt ≤ 24 := ht.2 25 _
            have i_130 := i_nle rfl rfl c8
            refine ⟨vin (a_add (a_mul rfl (show (24 : Int32).toInt = 24 by decide) (by omega) (by omega)) rfl (by omega) (by omega)) (by omega) (by omega), ?_⟩
            intro x9 ex9
            have f_131 : 0 ≤ (gF z7 26 ((b1 * (24 : Int32)) + v5).toNatClampNeg).toInt ∧ (gF z7 26 ((b1 * (24 : Int32)) + v5).toNatClampNeg).toInt ≤ 23 := tz7.2 26 _
            have q_132 := (ocz7.ff 26 ((b1 * (24 : Int32)) + v5).toNatClampNeg (by decide))
            have f_133 : 0 ≤ (gF z 26 ((b1 * (24 : Int32)) + v5).toNatClampNeg).toInt ∧ (gF z 26 ((b1 * (24 : Int32)) + v5).toNatClampNeg).toInt ≤ 23 := ht.2 26 _
            have u_134 := FS_at hrx (i := b1) (a := v5) (x := ((b1 * (24 : Int32)) + v5)) (by have hx : ((b1 * (24 : Int32)) + v5).toInt = ((b1.toInt * (24)) + v5.toInt) := (a_add (a_mul rfl (show (24 : Int32).toInt = 24 by decide) (by omega) (by omega)) rfl (by omega) (by omega)); omega) (by omega) (by omega) (by omega) (by omega)
            have f_135 : 0 ≤ (gF z 15 (gF z 23 b1.toNatClampNeg).toNatClampNeg).toInt ∧ (gF z 15 (gF z 23 b1.toNatClampNeg).toNatClampNeg).toInt ≤ 167 := ht.2 15 _
            have f_136 : 0 ≤ (gF z 17 (gF z 23 b1.toNatClampNeg).toNatClampNeg).toInt ∧ (gF z 17 (gF z 23 b1.toNatClampNeg).toNatClampNeg).toInt ≤ 4 := ht.2 17 _
            have f_138 : 0 ≤ (gF z7 23 b1.toNatClampNeg).toInt ∧ (gF z7 23 b1.toNatClampNeg).toInt ≤ 15 := tz7.2 23 _
            have q_139 := (ocz7.ff 23 b1.toNatClampNeg (by decide))
            have u_137 := FS_at xz7 (i := b1) (a := v5) (x := ((b1 * (24 : Int32)) + v5)) (by have hx : ((b1 * (24 : Int32)) + v5).toInt = ((b1.toInt * (24)) + v5.toInt) := (a_add (a_mul rfl (show (24 : Int32).toInt = 24 by decide) (by omega) (by omega)) rfl (by omega) (by omega)); omega) (by omega) (by omega) (by omega) (by omega)
            have f_140 : 0 ≤ (gF z7 15 (gF z7 23 b1.toNatClampNeg).toNatClampNeg).toInt ∧ (gF z7 15 (gF z7 23 b1.toNatClampNeg).toNatClampNeg).toInt ≤ 167 := tz7.2 15 _
            have q_141 := (ocz7.ff 15 (gF z7 23 b1.toNatClampNeg).toNatClampNeg (by decide))
            have f_142 : 0 ≤ (gF z 15 (gF z7 23 b1.toNatClampNeg).toNatClampNeg).toInt ∧ (gF z 15 (gF z7 23 b1.toNatClampNeg).toNatClampNeg).toInt ≤ 167 := ht.2 15 _
            have cn_143 : (gF z7 15 (gF z7 23 b1.toNatClampNeg).toNatClampNeg).toInt = (gF z 15 (gF z 23 b1.toNatClampNeg).toNatClampNeg).toInt := by rw [ocz7.2 15 (by decide), ocz7.2 23 (by decide)]
            have f_144 : 0 ≤ (gF z7 17 (gF z7 23 b1.toNatClampNeg).toNatClampNeg).toInt ∧ (gF z7 17 (gF z7 23 b1.toNatClampNeg).toNatClampNeg).toInt ≤ 4 := tz7.2 17 _
            have q_145 := (ocz7.ff 17 (gF z7 23 b1.toNatClampNeg).toNatClampNeg (by decide))
            have f_146 : 0 ≤ (gF z 17 (gF z7 23 b1.toNatClampNeg).toNatClampNeg).toInt ∧ (gF z 17 (gF z7 23 b1.toNatClampNeg).toNatClampNeg).toInt ≤ 4 := ht.2 17 _
            have cn_147 : (gF z7 17 (gF z7 23 b1.toNatClampNeg).toNatClampNeg).toInt = (gF z 17 (gF z 23 b1.toNatClampNeg).toNatClampNeg).toInt := by rw [ocz7.2 17 (by decide), ocz7.2 23 (by decide)]
            have ix9 : x9.toInt = (gF z7 26 ((b1 * (24 : Int32)) + v5).toNatClampNeg).toInt := by rw [ex9]
            refine ⟨vin rfl (by omega) (by omega), ?_⟩
            refine ⟨vin rfl (by omega) (by omega), ?_⟩
            intro x10 ex10
            have ix10 : x10.toInt = ((gF z7 15 (gF z7 23 b1.toNatClampNeg).toNatClampNeg).toInt + x9.toInt) := by rw [ex10]; exact (a_add rfl rfl (by omega) (by omega))
            refine ⟨vin rfl (by omega) (by omega), ?_⟩
            refine ⟨vin rfl (by omega) (by omega), ?_⟩
            intro x11 ex11
            have ix11 : x11.toInt = (x10.toInt + (gF z7 17 (gF z7 23 b1.toNatClampNeg).toNatClampNeg).toInt) := by rw [ex11]; exact (a_add rfl rfl (by omega) (by omega))
            intro K13 hK_148
            have L_149 : ∀ (n : Nat) (v12 : Int32) (z14 : St), TX z14 → Same [] [29] z z14 → FS z14 → (0 ≤ v12.toInt) → (v12.toInt ≤ 24) → (24 - v12.toInt).toNat < n → K13 v12 z14 := by
              intro n
              induction n with
              | zero => intro v12 z14 tz14 ocz14 xz14 w_150 w_151 m_153; omega
              | succ n ih_152 =>
                intro v12 z14 tz14 ocz14 xz14 w_150 w_151 m_153
                refine hK_148 v12 z14 ?_
                refine ⟨vin rfl (by omega) (by omega), ?_⟩
                refine ⟨fun c15 => ?_, fun c15 => ?_⟩
                · skip
                  have f_154 : 0 ≤ (gF z14 25 b2.toNatClampNeg).toInt ∧ (gF z14 25 b2.toNatClampNeg).toInt ≤ 24 := tz14.2 25 _
                  have q_155 := (ocz14.ff 25 b2.toNatClampNeg (by decide))
                  have f_156 : 0 ≤ (gF z 25 b2.toNatClampNeg).toInt ∧ (gF z 25 b2.toNatClampNeg).toInt ≤ 24 := ht.2 25 _
                  have i_157 := i_le rfl rfl c15
                  intro x16 ex16
                  have ix16 : x16.toInt = (v5.toInt + (1)) := by rw [ex16]; exact (a_add rfl (show (1 : Int32).toInt = 1 by decide) (by omega) (by omega))
                  exact ih_121 x16 z14 tz14 ocz14 xz14 (by omega) (by omega) (by omega)
                · skip
                  have f_158 : 0 ≤ (gF z14 25 b2.toNatClampNeg).toInt ∧ (gF z14 25 b2.toNatClampNeg).toInt ≤ 24 := tz14.2 25 _
                  have q_159 := (ocz14.ff 25 b2.toNatClampNeg (by decide))
                  have f_160 : 0 ≤ (gF z 25 b2.toNatClampNeg).toInt ∧ (gF z 25 b2.toNatClampNeg).toInt ≤ 24 := ht.2 25 _
                  have i_161 := i_nle rfl rfl c15
                  refine ⟨vin (a_add (a_mul rfl (show (24 : Int32).toInt = 24 by decide) (by omega) (by omega)) rfl (by omega) (by omega)) (by omega) (by omega), ?_⟩
                  intro x17 ex17
                  have f_162 : 0 ≤ (gF z14 26 ((b2 * (24 : Int32)) + v12).toNatClampNeg).toInt ∧ (gF z14 26 ((b2 * (24 : Int32)) + v12).toNatClampNeg).toInt ≤ 23 := tz14.2 26 _
                  have q_163 := (ocz14.ff 26 ((b2 * (24 : Int32)) + v12).toNatClampNeg (by decide))
                  have f_164 : 0 ≤ (gF z 26 ((b2 * (24 : Int32)) + v12).toNatClampNeg).toInt ∧ (gF z 26 ((b2 * (24 : Int32)) + v12).toNatClampNeg).toInt ≤ 23 := ht.2 26 _
                  have u_165 := FS_at hrx (i := b2) (a := v12) (x := ((b2 * (24 : Int32)) + v12)) (by have hx : ((b2 * (24 : Int32)) + v12).toInt = ((b2.toInt * (24)) + v12.toInt) := (a_add (a_mul rfl (show (24 : Int32).toInt = 24 by decide) (by omega) (by omega)) rfl (by omega) (by omega)); omega) (by omega) (by omega) (by omega) (by omega)
                  have f_166 : 0 ≤ (gF z 15 (gF z 23 b2.toNatClampNeg).toNatClampNeg).toInt ∧ (gF z 15 (gF z 23 b2.toNatClampNeg).toNatClampNeg).toInt ≤ 167 := ht.2 15 _
                  have f_167 : 0 ≤ (gF z 17 (gF z 23 b2.toNatClampNeg).toNatClampNeg).toInt ∧ (gF z 17 (gF z 23 b2.toNatClampNeg).toNatClampNeg).toInt ≤ 4 := ht.2 17 _
                  have f_169 : 0 ≤ (gF z14 23 b2.toNatClampNeg).toInt ∧ (gF z14 23 b2.toNatClampNeg).toInt ≤ 15 := tz14.2 23 _
                  have q_170 := (ocz14.ff 23 b2.toNatClampNeg (by decide))
                  have u_168 := FS_at xz14 (i := b2) (a := v12) (x := ((b2 * (24 : Int32)) + v12)) (by have hx : ((b2 * (24 : Int32)) + v12).toInt = ((b2.toInt * (24)) + v12.toInt) := (a_add (a_mul rfl (show (24 : Int32).toInt = 24 by decide) (by omega) (by omega)) rfl (by omega) (by omega)); omega) (by omega) (by omega) (by omega) (by omega)
                  have f_171 : 0 ≤ (gF z14 15 (gF z14 23 b2.toNatClampNeg).toNatClampNeg).toInt ∧ (gF z14 15 (gF z14 23 b2.toNatClampNeg).toNatClampNeg).toInt ≤ 167 := tz14.2 15 _
                  have q_172 := (ocz14.ff 15 (gF z14 23 b2.toNatClampNeg).toNatClampNeg (by decide))
                  have f_173 : 0 ≤ (gF z 15 (gF z14 23 b2.toNatClampNeg).toNatClampNeg).toInt ∧ (gF z 15 (gF z14 23 b2.toNatClampNeg).toNatClampNeg).toInt ≤ 167 := ht.2 15 _
                  have cn_174 : (gF z14 15 (gF z14 23 b2.toNatClampNeg).toNatClampNeg).toInt = (gF z 15 (gF z 23 b2.toNatClampNeg).toNatClampNeg).toInt := by rw [ocz14.2 15 (by decide), ocz14.2 23 (by decide)]
                  have f_175 : 0 ≤ (gF z14 17 (gF z14 23 b2.toNatClampNeg).toNatClampNeg).toInt ∧ (gF z14 17 (gF z14 23 b2.toNatClampNeg).toNatClampNeg).toInt ≤ 4 := tz14.2 17 _
                  have q_176 := (ocz14.ff 17 (gF z14 23 b2.toNatClampNeg).toNatClampNeg (by decide))
                  have f_177 : 0 ≤ (gF z 17 (gF z14 23 b2.toNatClampNeg).toNatClampNeg).toInt ∧ (gF z 17 (gF z14 23 b2.toNatClampNeg).toNatClampNeg).toInt ≤ 4 := ht.2 17 _
                  have cn_178 : (gF z14 17 (gF z14 23 b2.toNatClampNeg).toNatClampNeg).toInt = (gF z 17 (gF z 23 b2.toNatClampNeg).toNatClampNeg).toInt := by rw [ocz14.2 17 (by decide), ocz14.2 23 (by decide)]
                  have ix17 : x17.toInt = (gF z14 26 ((b2 * (24 : Int32)) + v12).toNatClampNeg).toInt := by rw [ex17]
                  refine ⟨vin rfl (by omega) (by omega), ?_⟩
                  refine ⟨vin rfl (by omega) (by omega), ?_⟩
                  intro x18 ex18
                  have ix18 : x18.toInt = ((gF z14 15 (gF z14 23 b2.toNatClampNeg).toNatClampNeg).toInt + x17.toInt) := by rw [ex18]; exact (a_add rfl rfl (by omega) (by omega))
                  refine ⟨vin rfl (by omega) (by omega), ?_⟩
                  refine ⟨vin rfl (by omega) (by omega), ?_⟩
                  intro x19 ex19
                  have ix19 : x19.toInt = (x18.toInt + (gF z14 17 (gF z14 23 b2.toNatClampNeg).toNatClampNeg).toInt) := by rw [ex19]; exact (a_add rfl rfl (by omega) (by omega))
                  intro K20 hK_179
                  intro K23 hK_180
                  refine ⟨fun hc => absurd hc (by decide), fun _ => ?_⟩
                  refine ⟨fun c36 => ?_, fun c36 => ?_⟩
                  · skip
                    have i_181 := i_lt rfl rfl c36
                    refine hK_179 z14 ?_
                    intro y_182 ey_182
                    have iy_182 : y_182.toInt = (v12.toInt + (1)) := by rw [ey_182]; exact (a_add rfl (show (1 : Int32).toInt = 1 by decide) (by omega) (by omega))
                    exact ih_152 y_182 z14 tz14 ocz14 xz14 (by omega) (by omega) (by omega)
                  · skip
                    have i_183 := i_nlt rfl rfl c36
                    refine hK_180  ?_
                    intro K_184 hK_194
                    refine ⟨fun _ => ?_, fun hc => absurd (show ((0 : Int32)) = ((0 : Int32)) by decide) hc⟩
                    refine hK_194  ?_
                    intro K_195 hK_202
                    refine ⟨fun c_198 => ?_, fun c_198 => ?_⟩
                    · skip
                      have i_203 := i_le rfl rfl c_198
                      refine hK_202  ?_
                      refine ⟨vin (a_add (a_mul (a_add (a_mul rfl (show (24 : Int32).toInt = 24 by decide) (by omega) (by omega)) rfl (by omega) (by omega)) (show (5 : Int32).toInt = 5 by decide) (by omega) (by omega)) rfl (by omega) (by omega)) (by omega) (by omega), ?_⟩
                      refine ⟨vin (a_add (a_mul (a_add (a_mul rfl (show (24 : Int32).toInt = 24 by decide) (by omega) (by omega)) rfl (by omega) (by omega)) (show (5 : Int32).toInt = 5 by decide) (by omega) (by omega)) rfl (by omega) (by omega)) (by omega) (by omega), ?_⟩
                      intro z_204 ez_204
                      have tz_204 : TX z_204 := by rw [ez_204]; exact Ty_wR tz14 trivial
                      have oz_204 : Same [] [29] z z_204 := ocz14.r (by decide) ez_204
                      have xz_204 : FS z_204 := by rw [ez_204]; exact xz14
                      refine ⟨vin (a_add (a_mul (a_add (a_mul rfl (show (24 : Int32).toInt = 24 by decide) (by omega) (by omega)) rfl (by omega) (by omega)) (show (5 : Int32).toInt = 5 by decide) (by omega) (by omega)) rfl (by omega) (by omega)) (by omega) (by omega), ?_⟩
                      refine ⟨vin (a_add (a_mul (a_add (a_mul rfl (show (24 : Int32).toInt = 24 by decide) (by omega) (by omega)) rfl (by omega) (by omega)) (show (5 : Int32).toInt = 5 by decide) (by omega) (by omega)) rfl (by omega) (by omega)) (by omega) (by omega), ?_⟩
                      intro z_205 ez_205
                      have tz_205 : TX z_205 := by rw [ez_205]; exact Ty_wR tz_204 trivial
                      have oz_205 : Same [] [29] z z_205 := oz_204.r (by decide) ez_205
                      have xz_205 : FS z_205 := by rw [ez_205]; exact xz_204
                      refine hK_179 z_205 ?_
                      intro y_206 ey_206
                      have iy_206 : y_206.toInt = (v12.toInt + (1)) := by rw [ey_206]; exact (a_add rfl (show (1 : Int32).toInt = 1 by decide) (by omega) (by omega))
                      exact ih_152 y_206 z_205 tz_205 oz_205 xz_205 (by omega) (by omega) (by omega)
                    · skip
                      have i_207 := i_nle rfl rfl c_198
                      refine ⟨fun c_199 => ?_, fun c_199 => ?_⟩
                      · skip
                        have i_208 := i_le rfl rfl c_199
                        refine hK_202  ?_
                        refine ⟨vin (a_add (a_mul (a_add (a_mul rfl (show (24 : Int32).toInt = 24 by decide) (by omega) (by omega)) rfl (by omega) (by omega)) (show (5 : Int32).toInt = 5 by decide) (by omega) (by omega)) rfl (by omega) (by omega)) (by omega) (by omega), ?_⟩
                        refine ⟨vin (a_add (a_mul (a_add (a_mul rfl (show (24 : Int32).toInt = 24 by decide) (by omega) (by omega)) rfl (by omega) (by omega)) (show (5 : Int32).toInt = 5 by decide) (by omega) (by omega)) rfl (by omega) (by omega)) (by omega) (by omega), ?_⟩
                        intro z_209 ez_209
                        have tz_209 : TX z_209 := by rw [ez_209]; exact Ty_wR tz14 trivial
                        have oz_209 : Same [] [29] z z_209 := ocz14.r (by decide) ez_209
                        have xz_209 : FS z_209 := by rw [ez_209]; exact xz14
                        refine ⟨vin (a_add (a_mul (a_add (a_mul rfl (show (24 : Int32).toInt = 24 by decide) (by omega) (by omega)) rfl (by omega) (by omega)) (show (5 : Int32).toInt = 5 by decide) (by omega) (by omega)) rfl (by omega) (by omega)) (by omega) (by omega), ?_⟩
                        refine ⟨vin (a_add (a_mul (a_add (a_mul rfl (show (24 : Int32).toInt = 24 by decide) (by omega) (by omega)) rfl (by omega) (by omega)) (show (5 : Int32).toInt = 5 by decide) (by omega) (by omega)) rfl (by omega) (by omega)) (by omega) (by omega), ?_⟩
                        intro z_210 ez_210
                        have tz_210 : TX z_210 := by rw [ez_210]; exact Ty_wR tz_209 trivial
                        have oz_210 : Same [] [29] z z_210 := oz_209.r (by decide) ez_210
                        have xz_210 : FS z_210 := by rw [ez_210]; exact xz_209
                        refine hK_179 z_210 ?_
                        intro y_211 ey_211
                        have iy_211 : y_211.toInt = (v12.toInt + (1)) := by rw [ey_211]; exact (a_add rfl (show (1 : Int32).toInt = 1 by decide) (by omega) (by omega))
                        exact ih_152 y_211 z_210 tz_210 oz_210 xz_210 (by omega) (by omega) (by omega)
                      · skip
                        have i_212 := i_nle rfl rfl c_199
                        refine ⟨vin rfl (by omega) (by omega), ?_⟩
                        refine ⟨vin rfl (by omega) (by omega), ?_⟩
                        have f_213 : 0 ≤ (gF z14 23 b1.toNatClampNeg).toInt ∧ (gF z14 23 b1.toNatClampNeg).toInt ≤ 15 := tz14.2 23 _
                        have q_214 := (ocz14.ff 23 b1.toNatClampNeg (by decide))
                        have f_215 : 0 ≤ (gF z14 17 (gF z14 23 b1.toNatClampNeg).toNatClampNeg).toInt ∧ (gF z14 17 (gF z14 23 b1.toNatClampNeg).toNatClampNeg).toInt ≤ 4 := tz14.2 17 _
                        have q_216 := (ocz14.ff 17 (gF z14 23 b1.toNatClampNeg).toNatClampNeg (by decide))
                        have f_217 : 0 ≤ (gF z 17 (gF z14 23 b1.toNatClampNeg).toNatClampNeg).toInt ∧ (gF z 17 (gF z14 23 b1.toNatClampNeg).toNatClampNeg).toInt ≤ 4 := ht.2 17 _
                        have cn_218 : (gF z14 17 (gF z14 23 b1.toNatClampNeg).toNatClampNeg).toInt = (gF z 17 (gF z 23 b1.toNatClampNeg).toNatClampNeg).toInt := by rw [ocz14.2 17 (by decide), ocz14.2 23 (by decide)]
                        refine s_X6_areBorne (gF z14 23 b1.toNatClampNeg) x10 (gF z14 23 b2.toNatClampNeg) x18 z14 _ tz14 (by omega) (by omega) (by omega) (by omega) (by omega) (by omega) (fun r_200 hp_219 => ?_)
                        rcases hp_219 with ⟨er_200, hp_219⟩ | ⟨er_200, hp_219⟩
                        · subst er_200
                          refine ⟨fun hc => absurd hc (by decide), fun _ => ?_⟩
                          refine hK_202  ?_
                          refine ⟨vin (a_add (a_mul (a_add (a_mul rfl (show (24 : Int32).toInt = 24 by decide) (by omega) (by omega)) rfl (by omega) (by omega)) (show (5 : Int32).toInt = 5 by decide) (by omega) (by omega)) rfl (by omega) (by omega)) (by omega) (by omega), ?_⟩
                          refine ⟨vin (a_add (a_mul (a_add (a_mul rfl (show (24 : Int32).toInt = 24 by decide) (by omega) (by omega)) rfl (by omega) (by omega)) (show (5 : Int32).toInt = 5 by decide) (by omega) (by omega)) rfl (by omega) (by omega)) (by omega) (by omega), ?_⟩
                          intro z_220 ez_220
                          have tz_220 : TX z_220 := by rw [ez_220]; exact Ty_wR tz14 trivial
                          have oz_220 : Same [] [29] z z_220 := ocz14.r (by decide) ez_220
                          have xz_220 : FS z_220 := by rw [ez_220]; exact xz14
                          refine ⟨vin (a_add (a_mul (a_add (a_mul rfl (show (24 : Int32).toInt = 24 by decide) (by omega) (by omega)) rfl (by omega) (by omega)) (show (5 : Int32).toInt = 5 by decide) (by omega) (by omega)) rfl (by omega) (by omega)) (by omega) (by omega), ?_⟩
                          refine ⟨vin (a_add (a_mul (a_add (a_mul rfl (show (24 : Int32).toInt = 24 by decide) (by omega) (by omega)) rfl (by omega) (by omega)) (show (5 : Int32).toInt = 5 by decide) (by omega) (by omega)) rfl (by omega) (by omega)) (by omega) (by omega), ?_⟩
                          intro z_221 ez_221
                          have tz_221 : TX z_221 := by rw [ez_221]; exact Ty_wR tz_220 trivial
                          have oz_221 : Same [] [29] z z_221 := oz_220.r (by decide) ez_221
                          have xz_221 : FS z_221 := by rw [ez_221]; exact xz_220
                          refine hK_179 z_221 ?_
                          intro y_222 ey_222
                          have iy_222 : y_222.toInt = (v12.toInt + (1)) := by rw [ey_222]; exact (a_add rfl (show (1 : Int32).toInt = 1 by decide) (by omega) (by omega))
                          exact ih_152 y_222 z_221 tz_221 oz_221 xz_221 (by omega) (by omega) (by omega)
                        · subst er_200
                          refine ⟨fun _ => ?_, fun hc => absurd (show ((0 : Int32)) = ((0 : Int32)) by decide) hc⟩
                          refine hK_179 z14 ?_
                          intro y_223 ey_223
                          have iy_223 : y_223.toInt = (v12.toInt + (1)) := by rw [ey_223]; exact (a_add rfl (show (1 : Int32).toInt = 1 by decide) (by omega) (by omega))
                          exact ih_152 y_223 z14 tz14 ocz14 xz14 (by omega) (by omega) (by omega)
            have g_224 : (0 : Int32).toInt = 0 := by decide
            exact L_149 ((24 - (0 : Int32).toInt).toNat + 1) ((0 : Int32)) z7 tz7 ocz7 xz7 (by omega) (by omega) (by omega)
      have g_225 : (0 : Int32).toInt = 0 := by decide
      exact L_118 ((24 - (0 : Int32).toInt).toNat + 1) ((0 : Int32)) z ht (Same.rf (z := z)) hrx (by omega) (by omega) (by omega)
  · subst er2
    refine ⟨vin rfl (by omega) (by omega), ?_⟩
    refine ⟨vin rfl (by omega) (by omega), ?_⟩
    refine s_X5_isBefore_c34 (gF z 23 b2.toNatClampNeg) (gF z 23 b1.toNatClampNeg) z _ ht (by omega) (fun r4 hp_226 => ?_)
    rcases hp_226 with ⟨er4, hp_226⟩ | ⟨er4, hp_226⟩
    · subst er4
      intro K6 hK_227
      have L_228 : ∀ (n : Nat) (v5 : Int32) (z7 : St), TX z7 → Same [] [29] z z7 → FS z7 → (0 ≤ v5.toInt) → (v5.toInt ≤ 24) → (24 - v5.toInt).toNat < n → K6 v5 z7 := by
        intro n
        induction n with
        | zero => intro v5 z7 tz7 ocz7 xz7 w_229 w_230 m_232; omega
        | succ n ih_231 =>
          intro v5 z7 tz7 ocz7 xz7 w_229 w_230 m_232
          refine hK_227 v5 z7 ?_
          refine ⟨vin rfl (by omega) (by omega), ?_⟩
          refine ⟨fun c8 => ?_, fun c8 => ?_⟩
          · skip
            have f_233 : 0 ≤ (gF z7 25 b1.toNatClampNeg).toInt ∧ (gF z7 25 b1.toNatClampNeg).toInt ≤ 24 := tz7.2 25 _
            have q_234 := (ocz7.ff 25 b1.toNatClampNeg (by decide))
            have f_235 : 0 ≤ (gF z 25 b1.toNatClampNeg).toInt ∧ (gF z 25 b1.toNatClampNeg).toInt ≤ 24 := ht.2 25 _
            have i_236 := i_le rfl rfl c8
            exact hk z7 tz7 ocz7 xz7 trivial
          · skip
            have f_237 : 0 ≤ (gF z7 25 b1.toNatClampNeg).toInt ∧ (gF z7 25 b1.toNatClampNeg).toInt ≤ 24 := tz7.2 25 _
            have q_238 := (ocz7.ff 25 b1.toNatClampNeg (by decide))
            have f_239 : 0 ≤ (gF z 25 b1.toNatClampNeg).toInt ∧ (gF z 25 b1.toNatClampNeg).toInt ≤ 24 := ht.2 25 _
            have i_240 := i_nle rfl rfl c8
            refine ⟨vin (a_add (a_mul rfl (show (24 : Int32).toInt = 24 by decide) (by omega) (by omega)) rfl (by omega) (by omega)) (by omega) (by omega), ?_⟩
            intro x9 ex9
            have f_241 : 0 ≤ (gF z7 26 ((b1 * (24 : Int32)) + v5).toNatClampNeg).toInt ∧ (gF z7 26 ((b1 * (24 : Int32)) + v5).toNatClampNeg).toInt ≤ 23 := tz7.2 26 _
            have q_242 := (ocz7.ff 26 ((b1 * (24 : Int32)) + v5).toNatClampNeg (by decide))
            have f_243 : 0 ≤ (gF z 26 ((b1 * (24 : Int32)) + v5).toNatClampNeg).toInt ∧ (gF z 26 ((b1 * (24 : Int32)) + v5).toNatClampNeg).toInt ≤ 23 := ht.2 26 _
            have u_244 := FS_at hrx (i := b1) (a := v5) (x := ((b1 * (24 : Int32)) + v5)) (by have hx : ((b1 * (24 : Int32)) + v5).toInt = ((b1.toInt * (24)) + v5.toInt) := (a_add (a_mul rfl (show (24 : Int32).toInt = 24 by decide) (by omega) (by omega)) rfl (by omega) (by omega)); omega) (by omega) (by omega) (by omega) (by omega)
            have f_245 : 0 ≤ (gF z 15 (gF z 23 b1.toNatClampNeg).toNatClampNeg).toInt ∧ (gF z 15 (gF z 23 b1.toNatClampNeg).toNatClampNeg).toInt ≤ 167 := ht.2 15 _
            have f_246 : 0 ≤ (gF z 17 (gF z 23 b1.toNatClampNeg).toNatClampNeg).toInt ∧ (gF z 17 (gF z 23 b1.toNatClampNeg).toNatClampNeg).toInt ≤ 4 := ht.2 17 _
            have f_248 : 0 ≤ (gF z7 23 b1.toNatClampNeg).toInt ∧ (gF z7 23 b1.toNatClampNeg).toInt ≤ 15 := tz7.2 23 _
            have q_249 := (ocz7.ff 23 b1.toNatClampNeg (by decide))
            have u_247 := FS_at xz7 (i := b1) (a := v5) (x := ((b1 * (24 : Int32)) + v5)) (by have hx : ((b1 * (24 : Int32)) + v5).toInt = ((b1.toInt * (24)) + v5.toInt) := (a_add (a_mul rfl (show (24 : Int32).toInt = 24 by decide) (by omega) (by omega)) rfl (by omega) (by omega)); omega) (by omega) (by omega) (by omega) (by omega)
            have f_250 : 0 ≤ (gF z7 15 (gF z7 23 b1.toNatClampNeg).toNatClampNeg).toInt ∧ (gF z7 15 (gF z7 23 b1.toNatClampNeg).toNatClampNeg).toInt ≤ 167 := tz7.2 15 _
            have q_251 := (ocz7.ff 15 (gF z7 23 b1.toNatClampNeg).toNatClampNeg (by decide))
            have f_252 : 0 ≤ (gF z 15 (gF z7 23 b1.toNatClampNeg).toNatClampNeg).toInt ∧ (gF z 15 (gF z7 23 b1.toNatClampNeg).toNatClampNeg).toInt ≤ 167 := ht.2 15 _
            have cn_253 : (gF z7 15 (gF z7 23 b1.toNatClampNeg).toNatClampNeg).toInt = (gF z 15 (gF z 23 b1.toNatClampNeg).toNatClampNeg).toInt := by rw [ocz7.2 15 (by decide), ocz7.2 23 (by decide)]
            have f_254 : 0 ≤ (gF z7 17 (gF z7 23 b1.toNatClampNeg).toNatClampNeg).toInt ∧ (gF z7 17 (gF z7 23 b1.toNatClampNeg).toNatClampNeg).toInt ≤ 4 := tz7.2 17 _
            have q_255 := (ocz7.ff 17 (gF z7 23 b1.toNatClampNeg).toNatClampNeg (by decide))
            have f_256 : 0 ≤ (gF z 17 (gF z7 23 b1.toNatClampNeg).toNatClampNeg).toInt ∧ (gF z 17 (gF z7 23 b1.toNatClampNeg).toNatClampNeg).toInt ≤ 4 := ht.2 17 _
            have cn_257 : (gF z7 17 (gF z7 23 b1.toNatClampNeg).toNatClampNeg).toInt = (gF z 17 (gF z 23 b1.toNatClampNeg).toNatClampNeg).toInt := by rw [ocz7.2 17 (by decide), ocz7.2 23 (by decide)]
            have ix9 : x9.toInt = (gF z7 26 ((b1 * (24 : Int32)) + v5).toNatClampNeg).toInt := by rw [ex9]
            refine ⟨vin rfl (by omega) (by omega), ?_⟩
            refine ⟨vin rfl (by omega) (by omega), ?_⟩
            intro x10 ex10
            have ix10 : x10.toInt = ((gF z7 15 (gF z7 23 b1.toNatClampNeg).toNatClampNeg).toInt + x9.toInt) := by rw [ex10]; exact (a_add rfl rfl (by omega) (by omega))
            refine ⟨vin rfl (by omega) (by omega), ?_⟩
            refine ⟨vin rfl (by omega) (by omega), ?_⟩
            intro x11 ex11
            have ix11 : x11.toInt = (x10.toInt + (gF z7 17 (gF z7 23 b1.toNatClampNeg).toNatClampNeg).toInt) := by rw [ex11]; exact (a_add rfl rfl (by omega) (by omega))
            intro K13 hK_258
            have L_259 : ∀ (n : Nat) (v12 : Int32) (z14 : St), TX z14 → Same [] [29] z z14 → FS z14 → (0 ≤ v12.toInt) → (v12.toInt ≤ 24) → (24 - v12.toInt).toNat < n → K13 v12 z14 := by
              intro n
              induction n with
              | zero => intro v12 z14 tz14 ocz14 xz14 w_260 w_261 m_263; omega
              | succ n ih_262 =>
                intro v12 z14 tz14 ocz14 xz14 w_260 w_261 m_263
                refine hK_258 v12 z14 ?_
                refine ⟨vin rfl (by omega) (by omega), ?_⟩
                refine ⟨fun c15 => ?_, fun c15 => ?_⟩
                · skip
                  have f_264 : 0 ≤ (gF z14 25 b2.toNatClampNeg).toInt ∧ (gF z14 25 b2.toNatClampNeg).toInt ≤ 24 := tz14.2 25 _
                  have q_265 := (ocz14.ff 25 b2.toNatClampNeg (by decide))
                  have f_266 : 0 ≤ (gF z 25 b2.toNatClampNeg).toInt ∧ (gF z 25 b2.toNatClampNeg).toInt ≤ 24 := ht.2 25 _
                  have i_267 := i_le rfl rfl c15
                  intro x16 ex16
                  have ix16 : x16.toInt = (v5.toInt + (1)) := by rw [ex16]; exact (a_add rfl (show (1 : Int32).toInt = 1 by decide) (by omega) (by omega))
                  exact ih_231 x16 z14 tz14 ocz14 xz14 (by omega) (by omega) (by omega)
                · skip
                  have f_268 : 0 ≤ (gF z14 25 b2.toNatClampNeg).toInt ∧ (gF z14 25 b2.toNatClampNeg).toInt ≤ 24 := tz14.2 25 _
                  have q_269 := (ocz14.ff 25 b2.toNatClampNeg (by decide))
                  have f_270 : 0 ≤ (gF z 25 b2.toNatClampNeg).toInt ∧ (gF z 25 b2.toNatClampNeg).toInt ≤ 24 := ht.2 25 _
                  have i_271 := i_nle rfl rfl c15
                  refine ⟨vin (a_add (a_mul rfl (show (24 : Int32).toInt = 24 by decide) (by omega) (by omega)) rfl (by omega) (by omega)) (by omega) (by omega), ?_⟩
                  intro x17 ex17
                  have f_272 : 0 ≤ (gF z14 26 ((b2 * (24 : Int32)) + v12).toNatClampNeg).toInt ∧ (gF z14 26 ((b2 * (24 : Int32)) + v12).toNatClampNeg).toInt ≤ 23 := tz14.2 26 _
                  have q_273 := (ocz14.ff 26 ((b2 * (24 : Int32)) + v12).toNatClampNeg (by decide))
                  have f_274 : 0 ≤ (gF z 26 ((b2 * (24 : Int32)) + v12).toNatClampNeg).toInt ∧ (gF z 26 ((b2 * (24 : Int32)) + v12).toNatClampNeg).toInt ≤ 23 := ht.2 26 _
                  have u_275 := FS_at hrx (i := b2) (a := v12) (x := ((b2 * (24 : Int32)) + v12)) (by have hx : ((b2 * (24 : Int32)) + v12).toInt = ((b2.toInt * (24)) + v12.toInt) := (a_add (a_mul rfl (show (24 : Int32).toInt = 24 by decide) (by omega) (by omega)) rfl (by omega) (by omega)); omega) (by omega) (by omega) (by omega) (by omega)
                  have f_276 : 0 ≤ (gF z 15 (gF z 23 b2.toNatClampNeg).toNatClampNeg).toInt ∧ (gF z 15 (gF z 23 b2.toNatClampNeg).toNatClampNeg).toInt ≤ 167 := ht.2 15 _
                  have f_277 : 0 ≤ (gF z 17 (gF z 23 b2.toNatClampNeg).toNatClampNeg).toInt ∧ (gF z 17 (gF z 23 b2.toNatClampNeg).toNatClampNeg).toInt ≤ 4 := ht.2 17 _
                  have f_279 : 0 ≤ (gF z14 23 b2.toNatClampNeg).toInt ∧ (gF z14 23 b2.toNatClampNeg).toInt ≤ 15 := tz14.2 23 _
                  have q_280 := (ocz14.ff 23 b2.toNatClampNeg (by decide))
                  have u_278 := FS_at xz14 (i := b2) (a := v12) (x := ((b2 * (24 : Int32)) + v12)) (by have hx : ((b2 * (24 : Int32)) + v12).toInt = ((b2.toInt * (24)) + v12.toInt) := (a_add (a_mul rfl (show (24 : Int32).toInt = 24 by decide) (by omega) (by omega)) rfl (by omega) (by omega)); omega) (by omega) (by omega) (by omega) (by omega)
                  have f_281 : 0 ≤ (gF z14 15 (gF z14 23 b2.toNatClampNeg).toNatClampNeg).toInt ∧ (gF z14 15 (gF z14 23 b2.toNatClampNeg).toNatClampNeg).toInt ≤ 167 := tz14.2 15 _
                  have q_282 := (ocz14.ff 15 (gF z14 23 b2.toNatClampNeg).toNatClampNeg (by decide))
                  have f_283 : 0 ≤ (gF z 15 (gF z14 23 b2.toNatClampNeg).toNatClampNeg).toInt ∧ (gF z 15 (gF z14 23 b2.toNatClampNeg).toNatClampNeg).toInt ≤ 167 := ht.2 15 _
                  have cn_284 : (gF z14 15 (gF z14 23 b2.toNatClampNeg).toNatClampNeg).toInt = (gF z 15 (gF z 23 b2.toNatClampNeg).toNatClampNeg).toInt := by rw [ocz14.2 15 (by decide), ocz14.2 23 (by decide)]
                  have f_285 : 0 ≤ (gF z14 17 (gF z14 23 b2.toNatClampNeg).toNatClampNeg).toInt ∧ (gF z14 17 (gF z14 23 b2.toNatClampNeg).toNatClampNeg).toInt ≤ 4 := tz14.2 17 _
                  have q_286 := (ocz14.ff 17 (gF z14 23 b2.toNatClampNeg).toNatClampNeg (by decide))
                  have f_287 : 0 ≤ (gF z 17 (gF z14 23 b2.toNatClampNeg).toNatClampNeg).toInt ∧ (gF z 17 (gF z14 23 b2.toNatClampNeg).toNatClampNeg).toInt ≤ 4 := ht.2 17 _
                  have cn_288 : (gF z14 17 (gF z14 23 b2.toNatClampNeg).toNatClampNeg).toInt = (gF z 17 (gF z 23 b2.toNatClampNeg).toNatClampNeg).toInt := by rw [ocz14.2 17 (by decide), ocz14.2 23 (by decide)]
                  have ix17 : x17.toInt = (gF z14 26 ((b2 * (24 : Int32)) + v12).toNatClampNeg).toInt := by rw [ex17]
                  refine ⟨vin rfl (by omega) (by omega), ?_⟩
                  refine ⟨vin rfl (by omega) (by omega), ?_⟩
                  intro x18 ex18
                  have ix18 : x18.toInt = ((gF z14 15 (gF z14 23 b2.toNatClampNeg).toNatClampNeg).toInt + x17.toInt) := by rw [ex18]; exact (a_add rfl rfl (by omega) (by omega))
                  refine ⟨vin rfl (by omega) (by omega), ?_⟩
                  refine ⟨vin rfl (by omega) (by omega), ?_⟩
                  intro x19 ex19
                  have ix19 : x19.toInt = (x18.toInt + (gF z14 17 (gF z14 23 b2.toNatClampNeg).toNatClampNeg).toInt) := by rw [ex19]; exact (a_add rfl rfl (by omega) (by omega))
                  intro K20 hK_289
                  intro K23 hK_290
                  refine ⟨fun _ => ?_, fun hc => absurd (show ((0 : Int32)) = ((0 : Int32)) by decide) hc⟩
                  refine hK_290  ?_
                  intro K_291 hK_301
                  refine ⟨fun hc => absurd hc (by decide), fun _ => ?_⟩
                  refine ⟨fun c_300 => ?_, fun c_300 => ?_⟩
                  · skip
                    have i_302 := i_le rfl rfl c_300
                    refine hK_301  ?_
                    intro K_303 hK_310
                    refine ⟨fun c_306 => ?_, fun c_306 => ?_⟩
                    · skip
                      have i_311 := i_le rfl rfl c_306
                      refine hK_310  ?_
                      refine ⟨vin (a_add (a_mul (a_add (a_mul rfl (show (24 : Int32).toInt = 24 by decide) (by omega) (by omega)) rfl (by omega) (by omega)) (show (5 : Int32).toInt = 5 by decide) (by omega) (by omega)) rfl (by omega) (by omega)) (by omega) (by omega), ?_⟩
                      refine ⟨vin (a_add (a_mul (a_add (a_mul rfl (show (24 : Int32).toInt = 24 by decide) (by omega) (by omega)) rfl (by omega) (by omega)) (show (5 : Int32).toInt = 5 by decide) (by omega) (by omega)) rfl (by omega) (by omega)) (by omega) (by omega), ?_⟩
                      intro z_312 ez_312
                      have tz_312 : TX z_312 := by rw [ez_312]; exact Ty_wR tz14 trivial
                      have oz_312 : Same [] [29] z z_312 := ocz14.r (by decide) ez_312
                      have xz_312 : FS z_312 := by rw [ez_312]; exact xz14
                      refine ⟨vin (a_add (a_mul (a_add (a_mul rfl (show (24 : Int32).toInt = 24 by decide) (by omega) (by omega)) rfl (by omega) (by omega)) (show (5 : Int32).toInt = 5 by decide) (by omega) (by omega)) rfl (by omega) (by omega)) (by omega) (by omega), ?_⟩
                      refine ⟨vin (a_add (a_mul (a_add (a_mul rfl (show (24 : Int32).toInt = 24 by decide) (by omega) (by omega)) rfl (by omega) (by omega)) (show (5 : Int32).toInt = 5 by decide) (by omega) (by omega)) rfl (by omega) (by omega)) (by omega) (by omega), ?_⟩
                      intro z_313 ez_313
                      have tz_313 : TX z_313 := by rw [ez_313]; exact Ty_wR tz_312 trivial
                      have oz_313 : Same [] [29] z z_313 := oz_312.r (by decide) ez_313
                      have xz_313 : FS z_313 := by rw [ez_313]; exact xz_312
                      refine hK_289 z_313 ?_
                      intro y_314 ey_314
                      have iy_314 : y_314.toInt = (v12.toInt + (1)) := by rw [ey_314]; exact (a_add rfl (show (1 : Int32).toInt = 1 by decide) (by omega) (by omega))
                      exact ih_262 y_314 z_313 tz_313 oz_313 xz_313 (by omega) (by omega) (by omega)
                    · skip
                      have i_315 := i_nle rfl rfl c_306
                      refine ⟨fun c_307 => ?_, fun c_307 => ?_⟩
                      · skip
                        have i_316 := i_le rfl rfl c_307
                        refine hK_310  ?_
                        refine ⟨vin (a_add (a_mul (a_add (a_mul rfl (show (24 : Int32).toInt = 24 by decide) (by omega) (by omega)) rfl (by omega) (by omega)) (show (5 : Int32).toInt = 5 by decide) (by omega) (by omega)) rfl (by omega) (by omega)) (by omega) (by omega), ?_⟩
                        refine ⟨vin (a_add (a_mul (a_add (a_mul rfl (show (24 : Int32).toInt = 24 by decide) (by omega) (by omega)) rfl (by omega) (by omega)) (show (5 : Int32).toInt = 5 by decide) (by omega) (by omega)) rfl (by omega) (by omega)) (by omega) (by omega), ?_⟩
                        intro z_317 ez_317
                        have tz_317 : TX z_317 := by rw [ez_317]; exact Ty_wR tz14 trivial
                        have oz_317 : Same [] [29] z z_317 := ocz14.r (by decide) ez_317
                        have xz_317 : FS z_317 := by rw [ez_317]; exact xz14
                        refine ⟨vin (a_add (a_mul (a_add (a_mul rfl (show (24 : Int32).toInt = 24 by decide) (by omega) (by omega)) rfl (by omega) (by omega)) (show (5 : Int32).toInt = 5 by decide) (by omega) (by omega)) rfl (by omega) (by omega)) (by omega) (by omega), ?_⟩
                        refine ⟨vin (a_add (a_mul (a_add (a_mul rfl (show (24 : Int32).toInt = 24 by decide) (by omega) (by omega)) rfl (by omega) (by omega)) (show (5 : Int32).toInt = 5 by decide) (by omega) (by omega)) rfl (by omega) (by omega)) (by omega) (by omega), ?_⟩
                        intro z_318 ez_318
                        have tz_318 : TX z_318 := by rw [ez_318]; exact Ty_wR tz_317 trivial
                        have oz_318 : Same [] [29] z z_318 := oz_317.r (by decide) ez_318
                        have xz_318 : FS z_318 := by rw [ez_318]; exact xz_317
                        refine hK_289 z_318 ?_
                        intro y_319 ey_319
                        have iy_319 : y_319.toInt = (v12.toInt + (1)) := by rw [ey_319]; exact (a_add rfl (show (1 : Int32).toInt = 1 by decide) (by omega) (by omega))
                        exact ih_262 y_319 z_318 tz_318 oz_318 xz_318 (by omega) (by omega) (by omega)
                      · skip
                        have i_320 := i_nle rfl rfl c_307
                        refine ⟨vin rfl (by omega) (by omega), ?_⟩
                        refine ⟨vin rfl (by omega) (by omega), ?_⟩
                        have f_321 : 0 ≤ (gF z14 23 b1.toNatClampNeg).toInt ∧ (gF z14 23 b1.toNatClampNeg).toInt ≤ 15 := tz14.2 23 _
                        have q_322 := (ocz14.ff 23 b1.toNatClampNeg (by decide))
                        have f_323 : 0 ≤ (gF z14 17 (gF z14 23 b1.toNatClampNeg).toNatClampNeg).toInt ∧ (gF z14 17 (gF z14 23 b1.toNatClampNeg).toNatClampNeg).toInt ≤ 4 := tz14.2 17 _
                        have q_324 := (ocz14.ff 17 (gF z14 23 b1.toNatClampNeg).toNatClampNeg (by decide))
                        have f_325 : 0 ≤ (gF z 17 (gF z14 23 b1.toNatClampNeg).toNatClampNeg).toInt ∧ (gF z 17 (gF z14 23 b1.toNatClampNeg).toNatClampNeg).toInt ≤ 4 := ht.2 17 _
                        have cn_326 : (gF z14 17 (gF z14 23 b1.toNatClampNeg).toNatClampNeg).toInt = (gF z 17 (gF z 23 b1.toNatClampNeg).toNatClampNeg).toInt := by rw [ocz14.2 17 (by decide), ocz14.2 23 (by decide)]
                        refine s_X6_areBorne (gF z14 23 b1.toNatClampNeg) x10 (gF z14 23 b2.toNatClampNeg) x18 z14 _ tz14 (by omega) (by omega) (by omega) (by omega) (by omega) (by omega) (fun r_308 hp_327 => ?_)
                        rcases hp_327 with ⟨er_308, hp_327⟩ | ⟨er_308, hp_327⟩
                        · subst er_308
                          refine ⟨fun hc => absurd hc (by decide), fun _ => ?_⟩
                          refine hK_310  ?_
                          refine ⟨vin (a_add (a_mul (a_add (a_mul rfl (show (24 : Int32).toInt = 24 by decide) (by omega) (by omega)) rfl (by omega) (by omega)) (show (5 : Int32).toInt = 5 by decide) (by omega) (by omega)) rfl (by omega) (by omega)) (by omega) (by omega), ?_⟩
                          refine ⟨vin (a_add (a_mul (a_add (a_mul rfl (show (24 : Int32).toInt = 24 by decide) (by omega) (by omega)) rfl (by omega) (by omega)) (show (5 : Int32).toInt = 5 by decide) (by omega) (by omega)) rfl (by omega) (by omega)) (by omega) (by omega), ?_⟩
                          intro z_328 ez_328
                          have tz_328 : TX z_328 := by rw [ez_328]; exact Ty_wR tz14 trivial
                          have oz_328 : Same [] [29] z z_328 := ocz14.r (by decide) ez_328
                          have xz_328 : FS z_328 := by rw [ez_328]; exact xz14
                          refine ⟨vin (a_add (a_mul (a_add (a_mul rfl (show (24 : Int32).toInt = 24 by decide) (by omega) (by omega)) rfl (by omega) (by omega)) (show (5 : Int32).toInt = 5 by decide) (by omega) (by omega)) rfl (by omega) (by omega)) (by omega) (by omega), ?_⟩
                          refine ⟨vin (a_add (a_mul (a_add (a_mul rfl (show (24 : Int32).toInt = 24 by decide) (by omega) (by omega)) rfl (by omega) (by omega)) (show (5 : Int32).toInt = 5 by decide) (by omega) (by omega)) rfl (by omega) (by omega)) (by omega) (by omega), ?_⟩
                          intro z_329 ez_329
                          have tz_329 : TX z_329 := by rw [ez_329]; exact Ty_wR tz_328 trivial
                          have oz_329 : Same [] [29] z z_329 := oz_328.r (by decide) ez_329
                          have xz_329 : FS z_329 := by rw [ez_329]; exact xz_328
                          refine hK_289 z_329 ?_
                          intro y_330 ey_330
                          have iy_330 : y_330.toInt = (v12.toInt + (1)) := by rw [ey_330]; exact (a_add rfl (show (1 : Int32).toInt = 1 by decide) (by omega) (by omega))
                          exact ih_262 y_330 z_329 tz_329 oz_329 xz_329 (by omega) (by omega) (by omega)
                        · subst er_308
                          refine ⟨fun _ => ?_, fun hc => absurd (show ((0 : Int32)) = ((0 : Int32)) by decide) hc⟩
                          refine hK_289 z14 ?_
                          intro y_331 ey_331
                          have iy_331 : y_331.toInt = (v12.toInt + (1)) := by rw [ey_331]; exact (a_add rfl (show (1 : Int32).toInt = 1 by decide) (by omega) (by omega))
                          exact ih_262 y_331 z14 tz14 ocz14 xz14 (by omega) (by omega) (by omega)
                  · skip
                    have i_332 := i_nle rfl rfl c_300
                    refine hK_289 z14 ?_
                    intro y_333 ey_333
                    have iy_333 : y_333.toInt = (v12.toInt + (1)) := by rw [ey_333]; exact (a_add rfl (show (1 : Int32).toInt = 1 by decide) (by omega) (by omega))
                    exact ih_262 y_333 z14 tz14 ocz14 xz14 (by omega) (by omega) (by omega)
            have g_334 : (0 : Int32).toInt = 0 := by decide
            exact L_259 ((24 - (0 : Int32).toInt).toNat + 1) ((0 : Int32)) z7 tz7 ocz7 xz7 (by omega) (by omega) (by omega)
      have g_335 : (0 : Int32).toInt = 0 := by decide
      exact L_228 ((24 - (0 : Int32).toInt).toNat + 1) ((0 : Int32)) z ht (Same.rf (z := z)) hrx (by omega) (by omega) (by omega)
    · subst er4
      intro K6 hK_336
      have L_337 : ∀ (n : Nat) (v5 : Int32) (z7 : St), TX z7 → Same [] [29] z z7 → FS z7 → (0 ≤ v5.toInt) → (v5.toInt ≤ 24) → (24 - v5.toInt).toNat < n → K6 v5 z7 := by
        intro n
        induction n with
        | zero => intro v5 z7 tz7 ocz7 xz7 w_338 w_339 m_341; omega
        | succ n ih_340 =>
          intro v5 z7 tz7 ocz7 xz7 w_338 w_339 m_341
          refine hK_336 v5 z7 ?_
          refine ⟨vin rfl (by omega) (by omega), ?_⟩
          refine ⟨fun c8 => ?_, fun c8 => ?_⟩
          · skip
            have f_342 : 0 ≤ (gF z7 25 b1.toNatClampNeg).toInt ∧ (gF z7 25 b1.toNatClampNeg).toInt ≤ 24 := tz7.2 25 _
            have q_343 := (ocz7.ff 25 b1.toNatClampNeg (by decide))
            have f_344 : 0 ≤ (gF z 25 b1.toNatClampNeg).toInt ∧ (gF z 25 b1.toNatClampNeg).toInt ≤ 24 := ht.2 25 _
            have i_345 := i_le rfl rfl c8
            exact hk z7 tz7 ocz7 xz7 trivial
          · skip
            have f_346 : 0 ≤ (gF z7 25 b1.toNatClampNeg).toInt ∧ (gF z7 25 b1.toNatClampNeg).toInt ≤ 24 := tz7.2 25 _
            have q_347 := (ocz7.ff 25 b1.toNatClampNeg (by decide))
            have f_348 : 0 ≤ (gF z 25 b1.toNatClampNeg).toInt ∧ (gF z 25 b1.toNatClampNeg).toInt ≤ 24 := ht.2 25 _
            have i_349 := i_nle rfl rfl c8
            refine ⟨vin (a_add (a_mul rfl (show (24 : Int32).toInt = 24 by decide) (by omega) (by omega)) rfl (by omega) (by omega)) (by omega) (by omega), ?_⟩
            intro x9 ex9
            have f_350 : 0 ≤ (gF z7 26 ((b1 * (24 : Int32)) + v5).toNatClampNeg).toInt ∧ (gF z7 26 ((b1 * (24 : Int32)) + v5).toNatClampNeg).toInt ≤ 23 := tz7.2 26 _
            have q_351 := (ocz7.ff 26 ((b1 * (24 : Int32)) + v5).toNatClampNeg (by decide))
            have f_352 : 0 ≤ (gF z 26 ((b1 * (24 : Int32)) + v5).toNatClampNeg).toInt ∧ (gF z 26 ((b1 * (24 : Int32)) + v5).toNatClampNeg).toInt ≤ 23 := ht.2 26 _
            have u_353 := FS_at hrx (i := b1) (a := v5) (x := ((b1 * (24 : Int32)) + v5)) (by have hx : ((b1 * (24 : Int32)) + v5).toInt = ((b1.toInt * (24)) + v5.toInt) := (a_add (a_mul rfl (show (24 : Int32).toInt = 24 by decide) (by omega) (by omega)) rfl (by omega) (by omega)); omega) (by omega) (by omega) (by omega) (by omega)
            have f_354 : 0 ≤ (gF z 15 (gF z 23 b1.toNatClampNeg).toNatClampNeg).toInt ∧ (gF z 15 (gF z 23 b1.toNatClampNeg).toNatClampNeg).toInt ≤ 167 := ht.2 15 _
            have f_355 : 0 ≤ (gF z 17 (gF z 23 b1.toNatClampNeg).toNatClampNeg).toInt ∧ (gF z 17 (gF z 23 b1.toNatClampNeg).toNatClampNeg).toInt ≤ 4 := ht.2 17 _
            have f_357 : 0 ≤ (gF z7 23 b1.toNatClampNeg).toInt ∧ (gF z7 23 b1.toNatClampNeg).toInt ≤ 15 := tz7.2 23 _
            have q_358 := (ocz7.ff 23 b1.toNatClampNeg (by decide))
            have u_356 := FS_at xz7 (i := b1) (a := v5) (x := ((b1 * (24 : Int32)) + v5)) (by have hx : ((b1 * (24 : Int32)) + v5).toInt = ((b1.toInt * (24)) + v5.toInt) := (a_add (a_mul rfl (show (24 : Int32).toInt = 24 by decide) (by omega) (by omega)) rfl (by omega) (by omega)); omega) (by omega) (by omega) (by omega) (by omega)
            have f_359 : 0 ≤ (gF z7 15 (gF z7 23 b1.toNatClampNeg).toNatClampNeg).toInt ∧ (gF z7 15 (gF z7 23 b1.toNatClampNeg).toNatClampNeg).toInt ≤ 167 := tz7.2 15 _
            have q_360 := (ocz7.ff 15 (gF z7 23 b1.toNatClampNeg).toNatClampNeg (by decide))
            have f_361 : 0 ≤ (gF z 15 (gF z7 23 b1.toNatClampNeg).toNatClampNeg).toInt ∧ (gF z 15 (gF z7 23 b1.toNatClampNeg).toNatClampNeg).toInt ≤ 167 := ht.2 15 _
            have cn_362 : (gF z7 15 (gF z7 23 b1.toNatClampNeg).toNatClampNeg).toInt = (gF z 15 (gF z 23 b1.toNatClampNeg).toNatClampNeg).toInt := by rw [ocz7.2 15 (by decide), ocz7.2 23 (by decide)]
            have f_363 : 0 ≤ (gF z7 17 (gF z7 23 b1.toNatClampNeg).toNatClampNeg).toInt ∧ (gF z7 17 (gF z7 23 b1.toNatClampNeg).toNatClampNeg).toInt ≤ 4 := tz7.2 17 _
            have q_364 := (ocz7.ff 17 (gF z7 23 b1.toNatClampNeg).toNatClampNeg (by decide))
            have f_365 : 0 ≤ (gF z 17 (gF z7 23 b1.toNatClampNeg).toNatClampNeg).toInt ∧ (gF z 17 (gF z7 23 b1.toNatClampNeg).toNatClampNeg).toInt ≤ 4 := ht.2 17 _
            have cn_366 : (gF z7 17 (gF z7 23 b1.toNatClampNeg).toNatClampNeg).toInt = (gF z 17 (gF z 23 b1.toNatClampNeg).toNatClampNeg).toInt := by rw [ocz7.2 17 (by decide), ocz7.2 23 (by decide)]
            have ix9 : x9.toInt = (gF z7 26 ((b1 * (24 : Int32)) + v5).toNatClampNeg).toInt := by rw [ex9]
            refine ⟨vin rfl (by omega) (by omega), ?_⟩
            refine ⟨vin rfl (by omega) (by omega), ?_⟩
            intro x10 ex10
            have ix10 : x10.toInt = ((gF z7 15 (gF z7 23 b1.toNatClampNeg).toNatClampNeg).toInt + x9.toInt) := by rw [ex10]; exact (a_add rfl rfl (by omega) (by omega))
            refine ⟨vin rfl (by omega) (by omega), ?_⟩
            refine ⟨vin rfl (by omega) (by omega), ?_⟩
            intro x11 ex11
            have ix11 : x11.toInt = (x10.toInt + (gF z7 17 (gF z7 23 b1.toNatClampNeg).toNatClampNeg).toInt) := by rw [ex11]; exact (a_add rfl rfl (by omega) (by omega))
            intro K13 hK_367
            have L_368 : ∀ (n : Nat) (v12 : Int32) (z14 : St), TX z14 → Same [] [29] z z14 → FS z14 → (0 ≤ v12.toInt) → (v12.toInt ≤ 24) → (24 - v12.toInt).toNat < n → K13 v12 z14 := by
              intro n
              induction n with
              | zero => intro v12 z14 tz14 ocz14 xz14 w_369 w_370 m_372; omega
              | succ n ih_371 =>
                intro v12 z14 tz14 ocz14 xz14 w_369 w_370 m_372
                refine hK_367 v12 z14 ?_
                refine ⟨vin rfl (by omega) (by omega), ?_⟩
                refine ⟨fun c15 => ?_, fun c15 => ?_⟩
                · skip
                  have f_373 : 0 ≤ (gF z14 25 b2.toNatClampNeg).toInt ∧ (gF z14 25 b2.toNatClampNeg).toInt ≤ 24 := tz14.2 25 _
                  have q_374 := (ocz14.ff 25 b2.toNatClampNeg (by decide))
                  have f_375 : 0 ≤ (gF z 25 b2.toNatClampNeg).toInt ∧ (gF z 25 b2.toNatClampNeg).toInt ≤ 24 := ht.2 25 _
                  have i_376 := i_le rfl rfl c15
                  intro x16 ex16
                  have ix16 : x16.toInt = (v5.toInt + (1)) := by rw [ex16]; exact (a_add rfl (show (1 : Int32).toInt = 1 by decide) (by omega) (by omega))
                  exact ih_340 x16 z14 tz14 ocz14 xz14 (by omega) (by omega) (by omega)
                · skip
                  have f_377 : 0 ≤ (gF z14 25 b2.toNatClampNeg).toInt ∧ (gF z14 25 b2.toNatClampNeg).toInt ≤ 24 := tz14.2 25 _
                  have q_378 := (ocz14.ff 25 b2.toNatClampNeg (by decide))
                  have f_379 : 0 ≤ (gF z 25 b2.toNatClampNeg).toInt ∧ (gF z 25 b2.toNatClampNeg).toInt ≤ 24 := ht.2 25 _
                  have i_380 := i_nle rfl rfl c15
                  refine ⟨vin (a_add (a_mul rfl (show (24 : Int32).toInt = 24 by decide) (by omega) (by omega)) rfl (by omega) (by omega)) (by omega) (by omega), ?_⟩
                  intro x17 ex17
                  have f_381 : 0 ≤ (gF z14 26 ((b2 * (24 : Int32)) + v12).toNatClampNeg).toInt ∧ (gF z14 26 ((b2 * (24 : Int32)) + v12).toNatClampNeg).toInt ≤ 23 := tz14.2 26 _
                  have q_382 := (ocz14.ff 26 ((b2 * (24 : Int32)) + v12).toNatClampNeg (by decide))
                  have f_383 : 0 ≤ (gF z 26 ((b2 * (24 : Int32)) + v12).toNatClampNeg).toInt ∧ (gF z 26 ((b2 * (24 : Int32)) + v12).toNatClampNeg).toInt ≤ 23 := ht.2 26 _
                  have u_384 := FS_at hrx (i := b2) (a := v12) (x := ((b2 * (24 : Int32)) + v12)) (by have hx : ((b2 * (24 : Int32)) + v12).toInt = ((b2.toInt * (24)) + v12.toInt) := (a_add (a_mul rfl (show (24 : Int32).toInt = 24 by decide) (by omega) (by omega)) rfl (by omega) (by omega)); omega) (by omega) (by omega) (by omega) (by omega)
                  have f_385 : 0 ≤ (gF z 15 (gF z 23 b2.toNatClampNeg).toNatClampNeg).toInt ∧ (gF z 15 (gF z 23 b2.toNatClampNeg).toNatClampNeg).toInt ≤ 167 := ht.2 15 _
                  have f_386 : 0 ≤ (gF z 17 (gF z 23 b2.toNatClampNeg).toNatClampNeg).toInt ∧ (gF z 17 (gF z 23 b2.toNatClampNeg).toNatClampNeg).toInt ≤ 4 := ht.2 17 _
                  have f_388 : 0 ≤ (gF z14 23 b2.toNatClampNeg).toInt ∧ (gF z14 23 b2.toNatClampNeg).toInt ≤ 15 := tz14.2 23 _
                  have q_389 := (ocz14.ff 23 b2.toNatClampNeg (by decide))
                  have u_387 := FS_at xz14 (i := b2) (a := v12) (x := ((b2 * (24 : Int32)) + v12)) (by have hx : ((b2 * (24 : Int32)) + v12).toInt = ((b2.toInt * (24)) + v12.toInt) := (a_add (a_mul rfl (show (24 : Int32).toInt = 24 by decide) (by omega) (by omega)) rfl (by omega) (by omega)); omega) (by omega) (by omega) (by omega) (by omega)
                  have f_390 : 0 ≤ (gF z14 15 (gF z14 23 b2.toNatClampNeg).toNatClampNeg).toInt ∧ (gF z14 15 (gF z14 23 b2.toNatClampNeg).toNatClampNeg).toInt ≤ 167 := tz14.2 15 _
                  have q_391 := (ocz14.ff 15 (gF z14 23 b2.toNatClampNeg).toNatClampNeg (by decide))
                  have f_392 : 0 ≤ (gF z 15 (gF z14 23 b2.toNatClampNeg).toNatClampNeg).toInt ∧ (gF z 15 (gF z14 23 b2.toNatClampNeg).toNatClampNeg).toInt ≤ 167 := ht.2 15 _
                  have cn_393 : (gF z14 15 (gF z14 23 b2.toNatClampNeg).toNatClampNeg).toInt = (gF z 15 (gF z 23 b2.toNatClampNeg).toNatClampNeg).toInt := by rw [ocz14.2 15 (by decide), ocz14.2 23 (by decide)]
                  have f_394 : 0 ≤ (gF z14 17 (gF z14 23 b2.toNatClampNeg).toNatClampNeg).toInt ∧ (gF z14 17 (gF z14 23 b2.toNatClampNeg).toNatClampNeg).toInt ≤ 4 := tz14.2 17 _
                  have q_395 := (ocz14.ff 17 (gF z14 23 b2.toNatClampNeg).toNatClampNeg (by decide))
                  have f_396 : 0 ≤ (gF z 17 (gF z14 23 b2.toNatClampNeg).toNatClampNeg).toInt ∧ (gF z 17 (gF z14 23 b2.toNatClampNeg).toNatClampNeg).toInt ≤ 4 := ht.2 17 _
                  have cn_397 : (gF z14 17 (gF z14 23 b2.toNatClampNeg).toNatClampNeg).toInt = (gF z 17 (gF z 23 b2.toNatClampNeg).toNatClampNeg).toInt := by rw [ocz14.2 17 (by decide), ocz14.2 23 (by decide)]
                  have ix17 : x17.toInt = (gF z14 26 ((b2 * (24 : Int32)) + v12).toNatClampNeg).toInt := by rw [ex17]
                  refine ⟨vin rfl (by omega) (by omega), ?_⟩
                  refine ⟨vin rfl (by omega) (by omega), ?_⟩
                  intro x18 ex18
                  have ix18 : x18.toInt = ((gF z14 15 (gF z14 23 b2.toNatClampNeg).toNatClampNeg).toInt + x17.toInt) := by rw [ex18]; exact (a_add rfl rfl (by omega) (by omega))
                  refine ⟨vin rfl (by omega) (by omega), ?_⟩
                  refine ⟨vin rfl (by omega) (by omega), ?_⟩
                  intro x19 ex19
                  have ix19 : x19.toInt = (x18.toInt + (gF z14 17 (gF z14 23 b2.toNatClampNeg).toNatClampNeg).toInt) := by rw [ex19]; exact (a_add rfl rfl (by omega) (by omega))
                  intro K20 hK_398
                  intro K23 hK_399
                  refine ⟨fun _ => ?_, fun hc => absurd (show ((0 : Int32)) = ((0 : Int32)) by decide) hc⟩
                  refine hK_399  ?_
                  intro K_400 hK_410
                  refine ⟨fun _ => ?_, fun hc => absurd (show ((0 : Int32)) = ((0 : Int32)) by decide) hc⟩
                  refine hK_410  ?_
                  intro K_411 hK_418
                  refine ⟨fun c_414 => ?_, fun c_414 => ?_⟩
                  · skip
                    have i_419 := i_le rfl rfl c_414
                    refine hK_418  ?_
                    refine ⟨vin (a_add (a_mul (a_add (a_mul rfl (show (24 : Int32).toInt = 24 by decide) (by omega) (by omega)) rfl (by omega) (by omega)) (show (5 : Int32).toInt = 5 by decide) (by omega) (by omega)) rfl (by omega) (by omega)) (by omega) (by omega), ?_⟩
                    refine ⟨vin (a_add (a_mul (a_add (a_mul rfl (show (24 : Int32).toInt = 24 by decide) (by omega) (by omega)) rfl (by omega) (by omega)) (show (5 : Int32).toInt = 5 by decide) (by omega) (by omega)) rfl (by omega) (by omega)) (by omega) (by omega), ?_⟩
                    intro z_420 ez_420
                    have tz_420 : TX z_420 := by rw [ez_420]; exact Ty_wR tz14 trivial
                    have oz_420 : Same [] [29] z z_420 := ocz14.r (by decide) ez_420
                    have xz_420 : FS z_420 := by rw [ez_420]; exact xz14
                    refine ⟨vin (a_add (a_mul (a_add (a_mul rfl (show (24 : Int32).toInt = 24 by decide) (by omega) (by omega)) rfl (by omega) (by omega)) (show (5 : Int32).toInt = 5 by decide) (by omega) (by omega)) rfl (by omega) (by omega)) (by omega) (by omega), ?_⟩
                    refine ⟨vin (a_add (a_mul (a_add (a_mul rfl (show (24 : Int32).toInt = 24 by decide) (by omega) (by omega)) rfl (by omega) (by omega)) (show (5 : Int32).toInt = 5 by decide) (by omega) (by omega)) rfl (by omega) (by omega)) (by omega) (by omega), ?_⟩
                    intro z_421 ez_421
                    have tz_421 : TX z_421 := by rw [ez_421]; exact Ty_wR tz_420 trivial
                    have oz_421 : Same [] [29] z z_421 := oz_420.r (by decide) ez_421
                    have xz_421 : FS z_421 := by rw [ez_421]; exact xz_420
                    refine hK_398 z_421 ?_
                    intro y_422 ey_422
                    have iy_422 : y_422.toInt = (v12.toInt + (1)) := by rw [ey_422]; exact (a_add rfl (show (1 : Int32).toInt = 1 by decide) (by omega) (by omega))
                    exact ih_371 y_422 z_421 tz_421 oz_421 xz_421 (by omega) (by omega) (by omega)
                  · skip
                    have i_423 := i_nle rfl rfl c_414
                    refine ⟨fun c_415 => ?_, fun c_415 => ?_⟩
                    · skip
                      have i_424 := i_le rfl rfl c_415
                      refine hK_418  ?_
                      refine ⟨vin (a_add (a_mul (a_add (a_mul rfl (show (24 : Int32).toInt = 24 by decide) (by omega) (by omega)) rfl (by omega) (by omega)) (show (5 : Int32).toInt = 5 by decide) (by omega) (by omega)) rfl (by omega) (by omega)) (by omega) (by omega), ?_⟩
                      refine ⟨vin (a_add (a_mul (a_add (a_mul rfl (show (24 : Int32).toInt = 24 by decide) (by omega) (by omega)) rfl (by omega) (by omega)) (show (5 : Int32).toInt = 5 by decide) (by omega) (by omega)) rfl (by omega) (by omega)) (by omega) (by omega), ?_⟩
                      intro z_425 ez_425
                      have tz_425 : TX z_425 := by rw [ez_425]; exact Ty_wR tz14 trivial
                      have oz_425 : Same [] [29] z z_425 := ocz14.r (by decide) ez_425
                      have xz_425 : FS z_425 := by rw [ez_425]; exact xz14
                      refine ⟨vin (a_add (a_mul (a_add (a_mul rfl (show (24 : Int32).toInt = 24 by decide) (by omega) (by omega)) rfl (by omega) (by omega)) (show (5 : Int32).toInt = 5 by decide) (by omega) (by omega)) rfl (by omega) (by omega)) (by omega) (by omega), ?_⟩
                      refine ⟨vin (a_add (a_mul (a_add (a_mul rfl (show (24 : Int32).toInt = 24 by decide) (by omega) (by omega)) rfl (by omega) (by omega)) (show (5 : Int32).toInt = 5 by decide) (by omega) (by omega)) rfl (by omega) (by omega)) (by omega) (by omega), ?_⟩
                      intro z_426 ez_426
                      have tz_426 : TX z_426 := by rw [ez_426]; exact Ty_wR tz_425 trivial
                      have oz_426 : Same [] [29] z z_426 := oz_425.r (by decide) ez_426
                      have xz_426 : FS z_426 := by rw [ez_426]; exact xz_425
                      refine hK_398 z_426 ?_
                      intro y_427 ey_427
                      have iy_427 : y_427.toInt = (v12.toInt + (1)) := by rw [ey_427]; exact (a_add rfl (show (1 : Int32).toInt = 1 by decide) (by omega) (by omega))
                      exact ih_371 y_427 z_426 tz_426 oz_426 xz_426 (by omega) (by omega) (by omega)
                    · skip
                      have i_428 := i_nle rfl rfl c_415
                      refine ⟨vin rfl (by omega) (by omega), ?_⟩
                      refine ⟨vin rfl (by omega) (by omega), ?_⟩
                      have f_429 : 0 ≤ (gF z14 23 b1.toNatClampNeg).toInt ∧ (gF z14 23 b1.toNatClampNeg).toInt ≤ 15 := tz14.2 23 _
                      have q_430 := (ocz14.ff 23 b1.toNatClampNeg (by decide))
                      have f_431 : 0 ≤ (gF z14 17 (gF z14 23 b1.toNatClampNeg).toNatClampNeg).toInt ∧ (gF z14 17 (gF z14 23 b1.toNatClampNeg).toNatClampNeg).toInt ≤ 4 := tz14.2 17 _
                      have q_432 := (ocz14.ff 17 (gF z14 23 b1.toNatClampNeg).toNatClampNeg (by decide))
                      have f_433 : 0 ≤ (gF z 17 (gF z14 23 b1.toNatClampNeg).toNatClampNeg).toInt ∧ (gF z 17 (gF z14 23 b1.toNatClampNeg).toNatClampNeg).toInt ≤ 4 := ht.2 17 _
                      have cn_434 : (gF z14 17 (gF z14 23 b1.toNatClampNeg).toNatClampNeg).toInt = (gF z 17 (gF z 23 b1.toNatClampNeg).toNatClampNeg).toInt := by rw [ocz14.2 17 (by decide), ocz14.2 23 (by decide)]
                      refine s_X6_areBorne (gF z14 23 b1.toNatClampNeg) x10 (gF z14 23 b2.toNatClampNeg) x18 z14 _ tz14 (by omega) (by omega) (by omega) (by omega) (by omega) (by omega) (fun r_416 hp_435 => ?_)
                      rcases hp_435 with ⟨er_416, hp_435⟩ | ⟨er_416, hp_435⟩
                      · subst er_416
                        refine ⟨fun hc => absurd hc (by decide), fun _ => ?_⟩
                        refine hK_418  ?_
                        refine ⟨vin (a_add (a_mul (a_add (a_mul rfl (show (24 : Int32).toInt = 24 by decide) (by omega) (by omega)) rfl (by omega) (by omega)) (show (5 : Int32).toInt = 5 by decide) (by omega) (by omega)) rfl (by omega) (by omega)) (by omega) (by omega), ?_⟩
                        refine ⟨vin (a_add (a_mul (a_add (a_mul rfl (show (24 : Int32).toInt = 24 by decide) (by omega) (by omega)) rfl (by omega) (by omega)) (show (5 : Int32).toInt = 5 by decide) (by omega) (by omega)) rfl (by omega) (by omega)) (by omega) (by omega), ?_⟩
                        intro z_436 ez_436
                        have tz_436 : TX z_436 := by rw [ez_436]; exact Ty_wR tz14 trivial
                        have oz_436 : Same [] [29] z z_436 := ocz14.r (by decide) ez_436
                        have xz_436 : FS z_436 := by rw [ez_436]; exact xz14
                        refine ⟨vin (a_add (a_mul (a_add (a_mul rfl (show (24 : Int32).toInt = 24 by decide) (by omega) (by omega)) rfl (by omega) (by omega)) (show (5 : Int32).toInt = 5 by decide) (by omega) (by omega)) rfl (by omega) (by omega)) (by omega) (by omega), ?_⟩
                        refine ⟨vin (a_add (a_mul (a_add (a_mul rfl (show (24 : Int32).toInt = 24 by decide) (by omega) (by omega)) rfl (by omega) (by omega)) (show (5 : Int32).toInt = 5 by decide) (by omega) (by omega)) rfl (by omega) (by omega)) (by omega) (by omega), ?_⟩
                        intro z_437 ez_437
                        have tz_437 : TX z_437 := by rw [ez_437]; exact Ty_wR tz_436 trivial
                        have oz_437 : Same [] [29] z z_437 := oz_436.r (by decide) ez_437
                        have xz_437 : FS z_437 := by rw [ez_437]; exact xz_436
                        refine hK_398 z_437 ?_
                        intro y_438 ey_438
                        have iy_438 : y_438.toInt = (v12.toInt + (1)) := by rw [ey_438]; exact (a_add rfl (show (1 : Int32).toInt = 1 by decide) (by omega) (by omega))
                        exact ih_371 y_438 z_437 tz_437 oz_437 xz_437 (by omega) (by omega) (by omega)
                      · subst er_416
                        refine ⟨fun _ => ?_, fun hc => absurd (show ((0 : Int32)) = ((0 : Int32)) by decide) hc⟩
                        refine hK_398 z14 ?_
                        intro y_439 ey_439
                        have iy_439 : y_439.toInt = (v12.toInt + (1)) := by rw [ey_439]; exact (a_add rfl (show (1 : Int32).toInt = 1 by decide) (by omega) (by omega))
                        exact ih_371 y_439 z14 tz14 ocz14 xz14 (by omega) (by omega) (by omega)
            have g_440 : (0 : Int32).toInt = 0 := by decide
            exact L_368 ((24 - (0 : Int32).toInt).toNat + 1) ((0 : Int32)) z7 tz7 ocz7 xz7 (by omega) (by omega) (by omega)
      have g_441 : (0 : Int32).toInt = 0 := by decide
      exact L_337 ((24 - (0 : Int32).toInt).toNat + 1) ((0 : Int32)) z ht (Same.rf (z := z)) hrx (by omega) (by omega) (by omega)
