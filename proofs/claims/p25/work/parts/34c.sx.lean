set_option maxHeartbeats 2000000 in
theorem s_X6_prepare_34  (z : St) (P : Int32 → St → Prop) (ht : TX z) (hrx : FS z)  (hk : ∀ (r : Int32) (z2 : St), TX z2 → Same [] [29, 30] z z2 → FS z2 → ((r = 1 ∧ (True)) ∨ (r = 0 ∧ (True))) → P r z2) : wp_X6_prepare_34  z P := by
  unfold wp_X6_prepare_34
  intro K2 hK_1
  have L_2 : ∀ (n : Nat) (v1 : Int32) (z3 : St), TX z3 → Same [] [29, 30] z z3 → FS z3 → (0 ≤ v1.toInt) → (v1.toInt ≤ 5) → (5 - v1.toInt).toNat < n → K2 v1 z3 := by
    intro n
    induction n with
    | zero => intro v1 z3 tz3 ocz3 xz3 w_3 w_4 m_6; omega
    | succ n ih_5 =>
      intro v1 z3 tz3 ocz3 xz3 w_3 w_4 m_6
      refine hK_1 v1 z3 ?_
      refine ⟨fun c4 => ?_, fun c4 => ?_⟩
      · skip
        have f_7 : 0 ≤ (gI z3 2213).toInt ∧ (gI z3 2213).toInt ≤ 5 := tz3.1 2213
        have q_8 := (ocz3.fi 2213 (by decide))
        have f_9 : 0 ≤ (gI z 2213).toInt ∧ (gI z 2213).toInt ≤ 5 := ht.1 2213
        have i_10 := i_le rfl rfl c4
        intro K7 hK_11
        have L_12 : ∀ (n : Nat) (v5 : Int32) (v6 : Int32) (z8 : St), TX z8 → Same [] [29, 30] z z8 → FS z8 → (0 ≤ v6.toInt) → (v6.toInt ≤ 120) → (120 - v6.toInt).toNat < n → K7 v5 v6 z8 := by
          intro n
          induction n with
          | zero => intro v5 v6 z8 tz8 ocz8 xz8 w_13 w_14 m_16; omega
          | succ n ih_15 =>
            intro v5 v6 z8 tz8 ocz8 xz8 w_13 w_14 m_16
            refine hK_11 v5 v6 z8 ?_
            intro K9 hK_17
            refine ⟨fun c20 => ?_, fun c20 => ?_⟩
            · skip
              have i_18 := i_eq rfl (show (0 : Int32).toInt = 0 by decide) c20
              refine hK_17  ?_
              refine ⟨vin (show (0 : Int32).toInt = 0 by decide) (by omega) (by omega), ?_⟩
              intro z_19 ez_19
              have tz_19 : TX z_19 := by rw [ez_19]; exact Ty_wL tz8
              have oz_19 : Same [] [29, 30] z z_19 := ocz8.l ez_19
              have xz_19 : FS z_19 := by rw [ez_19]; exact xz8
              intro K_20 hK_28
              have L_29 : ∀ (n : Nat) (v_21 : Int32) (z_22 : St), TX z_22 → Same [] [29, 30] z z_22 → FS z_22 → (0 ≤ v_21.toInt) → (v_21.toInt ≤ 5) → (5 - v_21.toInt).toNat < n → K_20 v_21 z_22 := by
                intro n
                induction n with
                | zero => intro v_21 z_22 tz_22 ocz_22 xz_22 w_30 w_31 m_33; omega
                | succ n ih_32 =>
                  intro v_21 z_22 tz_22 ocz_22 xz_22 w_30 w_31 m_33
                  refine hK_28 v_21 z_22 ?_
                  refine ⟨fun c_23 => ?_, fun c_23 => ?_⟩
                  · skip
                    have f_34 : 0 ≤ (gI z_22 2213).toInt ∧ (gI z_22 2213).toInt ≤ 5 := tz_22.1 2213
                    have q_35 := (ocz_22.fi 2213 (by decide))
                    have i_36 := i_le rfl rfl c_23
                    have g_37 : (1 : Int32).toInt = 1 := by decide
                    exact hk ((1 : Int32)) z_22 tz_22 ocz_22 xz_22 (Or.inl ⟨rfl, trivial⟩)
                  · skip
                    have f_38 : 0 ≤ (gI z_22 2213).toInt ∧ (gI z_22 2213).toInt ≤ 5 := tz_22.1 2213
                    have q_39 := (ocz_22.fi 2213 (by decide))
                    have i_40 := i_nle rfl rfl c_23
                    refine ⟨vin rfl (by omega) (by omega), ?_⟩
                    refine ⟨fun c_24 => ?_, fun c_24 => ?_⟩
                    · skip
                      have i_41 := i_ne rfl (show (0 : Int32).toInt = 0 by decide) c_24
                      refine ⟨vin (show (0 : Int32).toInt = 0 by decide) (by omega) (by omega), ?_⟩
                      refine ⟨vin rfl (by omega) (by omega), ?_⟩
                      refine s_X6_leastOf v_21 (gF z_22 30 v_21.toNatClampNeg) z_22 _ tz_22 (by omega) (fun r_25 hp_42 => ?_)
                      refine ⟨vin (show (0 : Int32).toInt = 0 by decide) (by omega) (by omega), ?_⟩
                      intro z_26 ez_26
                      have tz_26 : TX z_26 := by rw [ez_26]; exact Ty_wL tz_22
                      have oz_26 : Same [] [29, 30] z z_26 := ocz_22.l ez_26
                      have xz_26 : FS z_26 := by rw [ez_26]; exact xz_22
                      intro y_27 ey_27
                      have iy_27 : y_27.toInt = (v_21.toInt + (1)) := by rw [ey_27]; exact (a_add rfl (show (1 : Int32).toInt = 1 by decide) (by omega) (by omega))
                      exact ih_32 y_27 z_26 tz_26 oz_26 xz_26 (by omega) (by omega) (by omega)
                    · skip
                      have i_43 := i_eq rfl (show (0 : Int32).toInt = 0 by decide) c_24
                      have g_44 : (0 : Int32).toInt = 0 := by decide
                      exact hk ((0 : Int32)) z_22 tz_22 ocz_22 xz_22 (Or.inr ⟨rfl, trivial⟩)
              have g_45 : (0 : Int32).toInt = 0 := by decide
              exact L_29 ((5 - (0 : Int32).toInt).toNat + 1) ((0 : Int32)) z_19 tz_19 oz_19 xz_19 (by omega) (by omega) (by omega)
            · skip
              have i_46 := i_ne rfl (show (0 : Int32).toInt = 0 by decide) c20
              refine ⟨fun c21 => ?_, fun c21 => ?_⟩
              · skip
                have i_47 := i_le (show (120 : Int32).toInt = 120 by decide) rfl c21
                refine hK_17  ?_
                refine ⟨vin (show (0 : Int32).toInt = 0 by decide) (by omega) (by omega), ?_⟩
                intro z_48 ez_48
                have tz_48 : TX z_48 := by rw [ez_48]; exact Ty_wL tz8
                have oz_48 : Same [] [29, 30] z z_48 := ocz8.l ez_48
                have xz_48 : FS z_48 := by rw [ez_48]; exact xz8
                intro K_49 hK_57
                have L_58 : ∀ (n : Nat) (v_50 : Int32) (z_51 : St), TX z_51 → Same [] [29, 30] z z_51 → FS z_51 → (0 ≤ v_50.toInt) → (v_50.toInt ≤ 5) → (5 - v_50.toInt).toNat < n → K_49 v_50 z_51 := by
                  intro n
                  induction n with
                  | zero => intro v_50 z_51 tz_51 ocz_51 xz_51 w_59 w_60 m_62; omega
                  | succ n ih_61 =>
                    intro v_50 z_51 tz_51 ocz_51 xz_51 w_59 w_60 m_62
                    refine hK_57 v_50 z_51 ?_
                    refine ⟨fun c_52 => ?_, fun c_52 => ?_⟩
                    · skip
                      have f_63 : 0 ≤ (gI z_51 2213).toInt ∧ (gI z_51 2213).toInt ≤ 5 := tz_51.1 2213
                      have q_64 := (ocz_51.fi 2213 (by decide))
                      have i_65 := i_le rfl rfl c_52
                      have g_66 : (1 : Int32).toInt = 1 := by decide
                      exact hk ((1 : Int32)) z_51 tz_51 ocz_51 xz_51 (Or.inl ⟨rfl, trivial⟩)
                    · skip
                      have f_67 : 0 ≤ (gI z_51 2213).toInt ∧ (gI z_51 2213).toInt ≤ 5 := tz_51.1 2213
                      have q_68 := (ocz_51.fi 2213 (by decide))
                      have i_69 := i_nle rfl rfl c_52
                      refine ⟨vin rfl (by omega) (by omega), ?_⟩
                      refine ⟨fun c_53 => ?_, fun c_53 => ?_⟩
                      · skip
                        have i_70 := i_ne rfl (show (0 : Int32).toInt = 0 by decide) c_53
                        refine ⟨vin (show (0 : Int32).toInt = 0 by decide) (by omega) (by omega), ?_⟩
                        refine ⟨vin rfl (by omega) (by omega), ?_⟩
                        refine s_X6_leastOf v_50 (gF z_51 30 v_50.toNatClampNeg) z_51 _ tz_51 (by omega) (fun r_54 hp_71 => ?_)
                        refine ⟨vin (show (0 : Int32).toInt = 0 by decide) (by omega) (by omega), ?_⟩
                        intro z_55 ez_55
                        have tz_55 : TX z_55 := by rw [ez_55]; exact Ty_wL tz_51
                        have oz_55 : Same [] [29, 30] z z_55 := ocz_51.l ez_55
                        have xz_55 : FS z_55 := by rw [ez_55]; exact xz_51
                        intro y_56 ey_56
                        have iy_56 : y_56.toInt = (v_50.toInt + (1)) := by rw [ey_56]; exact (a_add rfl (show (1 : Int32).toInt = 1 by decide) (by omega) (by omega))
                        exact ih_61 y_56 z_55 tz_55 oz_55 xz_55 (by omega) (by omega) (by omega)
                      · skip
                        have i_72 := i_eq rfl (show (0 : Int32).toInt = 0 by decide) c_53
                        have g_73 : (0 : Int32).toInt = 0 := by decide
                        exact hk ((0 : Int32)) z_51 tz_51 ocz_51 xz_51 (Or.inr ⟨rfl, trivial⟩)
                have g_74 : (0 : Int32).toInt = 0 := by decide
                exact L_58 ((5 - (0 : Int32).toInt).toNat + 1) ((0 : Int32)) z_48 tz_48 oz_48 xz_48 (by omega) (by omega) (by omega)
              · skip
                have i_75 := i_nle (show (120 : Int32).toInt = 120 by decide) rfl c21
                refine s_X6_thinOut  z8 _ tz8  (fun r23 z22 tz22 o_77 hp_76 => ?_)
                have oz22 : Same [] [29, 30] z z22 := ocz8.tr o_77 (by decide) (by decide)
                have xz22 : FS z22 := FS_same xz8 o_77 (by decide) (by decide) (by decide) (by decide) (by decide) (by decide)
                rcases hp_76 with ⟨er23, hp_76⟩ | ⟨er23, hp_76⟩
                · subst er23
                  intro x24 ex24
                  have ix24 : x24.toInt = (v6.toInt + (1)) := by rw [ex24]; exact (a_add rfl (show (1 : Int32).toInt = 1 by decide) (by omega) (by omega))
                  have g_78 : (1 : Int32).toInt = 1 := by decide
                  exact ih_15 ((1 : Int32)) x24 z22 tz22 oz22 xz22 (by omega) (by omega) (by omega)
                · subst er23
                  intro x24 ex24
                  have ix24 : x24.toInt = (v6.toInt + (1)) := by rw [ex24]; exact (a_add rfl (show (1 : Int32).toInt = 1 by decide) (by omega) (by omega))
                  have g_79 : (0 : Int32).toInt = 0 := by decide
                  exact ih_15 ((0 : Int32)) x24 z22 tz22 oz22 xz22 (by omega) (by omega) (by omega)
        have g_80 : (1 : Int32).toInt = 1 := by decide
        have g_81 : (0 : Int32).toInt = 0 := by decide
        exact L_12 ((120 - (0 : Int32).toInt).toNat + 1) ((1 : Int32)) ((0 : Int32)) z3 tz3 ocz3 xz3 (by omega) (by omega) (by omega)
      · skip
        have f_82 : 0 ≤ (gI z3 2213).toInt ∧ (gI z3 2213).toInt ≤ 5 := tz3.1 2213
        have q_83 := (ocz3.fi 2213 (by decide))
        have f_84 : 0 ≤ (gI z 2213).toInt ∧ (gI z 2213).toInt ≤ 5 := ht.1 2213
        have i_85 := i_nle rfl rfl c4
        intro K26 hK_86
        have L_87 : ∀ (n : Nat) (v25 : Int32) (z27 : St), TX z27 → Same [] [29, 30] z z27 → FS z27 → (0 ≤ v25.toInt) → (v25.toInt ≤ 5) → (5 - v25.toInt).toNat < n → K26 v25 z27 := by
          intro n
          induction n with
          | zero => intro v25 z27 tz27 ocz27 xz27 w_88 w_89 m_91; omega
          | succ n ih_90 =>
            intro v25 z27 tz27 ocz27 xz27 w_88 w_89 m_91
            refine hK_86 v25 z27 ?_
            refine ⟨fun c28 => ?_, fun c28 => ?_⟩
            · skip
              have f_92 : 0 ≤ (gI z27 2213).toInt ∧ (gI z27 2213).toInt ≤ 5 := tz27.1 2213
              have q_93 := (ocz27.fi 2213 (by decide))
              have i_94 := i_le rfl rfl c28
              intro x29 ex29
              have ix29 : x29.toInt = (v1.toInt + (1)) := by rw [ex29]; exact (a_add rfl (show (1 : Int32).toInt = 1 by decide) (by omega) (by omega))
              exact ih_5 x29 z27 tz27 ocz27 xz27 (by omega) (by omega) (by omega)
            · skip
              have f_95 : 0 ≤ (gI z27 2213).toInt ∧ (gI z27 2213).toInt ≤ 5 := tz27.1 2213
              have q_96 := (ocz27.fi 2213 (by decide))
              have i_97 := i_nle rfl rfl c28
              refine s_X6_matchPair_34 v1 v25 z27 _ tz27 xz27 (by omega) (by omega) (fun z30 tz30 o_99 xz30 hp_98 => ?_)
              have oz30 : Same [] [29, 30] z z30 := ocz27.tr o_99 (by decide) (by decide)
              intro x32 ex32
              have ix32 : x32.toInt = (v25.toInt + (1)) := by rw [ex32]; exact (a_add rfl (show (1 : Int32).toInt = 1 by decide) (by omega) (by omega))
              exact ih_90 x32 z30 tz30 oz30 xz30 (by omega) (by omega) (by omega)
        intro x33 ex33
        have ix33 : x33.toInt = (v1.toInt + (1)) := by rw [ex33]; exact (a_add rfl (show (1 : Int32).toInt = 1 by decide) (by omega) (by omega))
        exact L_87 ((5 - x33.toInt).toNat + 1) x33 z3 tz3 ocz3 xz3 (by omega) (by omega) (by omega)
  have g_100 : (0 : Int32).toInt = 0 := by decide
  exact L_2 ((5 - (0 : Int32).toInt).toNat + 1) ((0 : Int32)) z ht (Same.rf (z := z)) hrx (by omega) (by omega) (by omega)
