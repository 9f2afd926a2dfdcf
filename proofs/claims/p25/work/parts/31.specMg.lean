set_option maxHeartbeats 2000000 in
theorem s_X9_rules  (z : St) (P : Int32 → St → Prop) (ht : TM z)  (hk : ∀ (r : Int32) (z2 : St), TM z2 → Same [0, 1, 22, 34, 36, 37, 38, 39, 41, 42] [14, 15, 16, 17, 24] z z2 → ((gI z2 36).toInt = 0) → P r z2) : wp_X9_rules  z P := by
  unfold wp_X9_rules
  intro z1 ez1
  have tz1 : TM z1 := by rw [ez1]; exact Ty_wI ht trivial
  have oz1 : Same [0, 1, 22, 34, 36, 37, 38, 39, 41, 42] [14, 15, 16, 17, 24] z z1 := (Same.rf (z := z)).i (by decide) ez1
  intro z2 ez2
  have tz2 : TM z2 := by rw [ez2]; exact Ty_wI tz1 (show 0 ≤ (0 : Int32).toInt ∧ (0 : Int32).toInt ≤ 300 from by rw [(show (0 : Int32).toInt = 0 by decide)]; omega)
  have oz2 : Same [0, 1, 22, 34, 36, 37, 38, 39, 41, 42] [14, 15, 16, 17, 24] z z2 := oz1.i (by decide) ez2
  intro z3 ez3
  have tz3 : TM z3 := by rw [ez3]; exact Ty_wI tz2 (show 0 ≤ (0 : Int32).toInt ∧ (0 : Int32).toInt ≤ 1 from by rw [(show (0 : Int32).toInt = 0 by decide)]; omega)
  have oz3 : Same [0, 1, 22, 34, 36, 37, 38, 39, 41, 42] [14, 15, 16, 17, 24] z z3 := oz2.i (by decide) ez3
  intro z4 ez4
  have tz4 : TM z4 := by rw [ez4]; exact Ty_wI tz3 trivial
  have oz4 : Same [0, 1, 22, 34, 36, 37, 38, 39, 41, 42] [14, 15, 16, 17, 24] z z4 := oz3.i (by decide) ez4
  intro z5 ez5
  have tz5 : TM z5 := by rw [ez5]; exact Ty_wI tz4 (show 0 ≤ (0 : Int32).toInt ∧ (0 : Int32).toInt ≤ 20 from by rw [(show (0 : Int32).toInt = 0 by decide)]; omega)
  have oz5 : Same [0, 1, 22, 34, 36, 37, 38, 39, 41, 42] [14, 15, 16, 17, 24] z z5 := oz4.i (by decide) ez5
  have f_1 : 0 ≤ (gI z5 38).toInt ∧ (gI z5 38).toInt ≤ 300 := tz5.1 38
  have q_2 := ((((show (gI z5 38).toInt = (gI z4 38).toInt by rw [ez5]; rfl)).trans (show (gI z4 38).toInt = (gI z3 38).toInt by rw [ez4]; rfl)).trans (show (gI z3 38).toInt = (gI z2 38).toInt by rw [ez3]; rfl)).trans (show (gI z2 38).toInt = (0 : Int32).toInt by rw [ez2]; rfl)
  have q_3 : (0 : Int32).toInt = (0) := (show (0 : Int32).toInt = 0 by decide)
  have f_4 : 0 ≤ (gI z5 36).toInt ∧ (gI z5 36).toInt ≤ 300 := tz5.1 36
  have q_5 := (((((show (gI z5 36).toInt = (gI z4 36).toInt by rw [ez5]; rfl)).trans (show (gI z4 36).toInt = (gI z3 36).toInt by rw [ez4]; rfl)).trans (show (gI z3 36).toInt = (gI z2 36).toInt by rw [ez3]; rfl)).trans (show (gI z2 36).toInt = (gI z1 36).toInt by rw [ez2]; rfl)).trans (show (gI z1 36).toInt = (gI z 36).toInt by rw [ez1]; rfl)
  have f_6 : 0 ≤ (gI z 36).toInt ∧ (gI z 36).toInt ≤ 300 := ht.1 36
  refine s_X9_next  z5 _ tz5 (by omega) (fun z6 tz6 o_8 hp_7 => ?_)
  have oz6 : Same [0, 1, 22, 34, 36, 37, 38, 39, 41, 42] [14, 15, 16, 17, 24] z z6 := oz5.tr o_8 (by decide) (by decide)
  have f_9 : 0 ≤ (gI z6 38).toInt ∧ (gI z6 38).toInt ≤ 300 := tz6.1 38
  intro K8 hK_10
  refine ⟨fun c26 => ?_, fun c26 => ?_⟩
  · skip
    have i_11 := i_eq rfl (show (0 : Int32).toInt = 0 by decide) c26
    refine hK_10 z6 ?_
    intro z_12 ez_12
    have tz_12 : TM z_12 := by rw [ez_12]; exact Ty_wI tz6 (show 0 ≤ (0 : Int32).toInt ∧ (0 : Int32).toInt ≤ 300 from by rw [(show (0 : Int32).toInt = 0 by decide)]; omega)
    have oz_12 : Same [0, 1, 22, 34, 36, 37, 38, 39, 41, 42] [14, 15, 16, 17, 24] z z_12 := oz6.i (by decide) ez_12
    refine ⟨fun c_13 => ?_, fun c_13 => ?_⟩
    · skip
      have f_28 : 0 ≤ (gI z_12 42).toInt ∧ (gI z_12 42).toInt ≤ 1 := tz_12.1 42
      have q_29 := (((((show (gI z_12 42).toInt = (gI z6 42).toInt by rw [ez_12]; rfl)).trans (o_8.fi 42 (by decide))).trans (show (gI z5 42).toInt = (gI z4 42).toInt by rw [ez5]; rfl)).trans (show (gI z4 42).toInt = (gI z3 42).toInt by rw [ez4]; rfl)).trans (show (gI z3 42).toInt = (0 : Int32).toInt by rw [ez3]; rfl)
      have q_30 : (0 : Int32).toInt = (0) := (show (0 : Int32).toInt = 0 by decide)
      have i_31 := i_eq rfl (show (0 : Int32).toInt = 0 by decide) c_13
      intro z_14 ez_14
      have f_32 : 0 ≤ (gI z_12 34).toInt ∧ (gI z_12 34).toInt ≤ 20 := tz_12.1 34
      have q_33 := (((show (gI z_12 34).toInt = (gI z6 34).toInt by rw [ez_12]; rfl)).trans (o_8.fi 34 (by decide))).trans (show (gI z5 34).toInt = (0 : Int32).toInt by rw [ez5]; rfl)
      have q_34 : (0 : Int32).toInt = (0) := (show (0 : Int32).toInt = 0 by decide)
      have tz_14 : TM z_14 := by rw [ez_14]; exact Ty_wI tz_12 (show 0 ≤ (gI z_12 34).toInt ∧ (gI z_12 34).toInt ≤ 20 from by omega)
      have oz_14 : Same [0, 1, 22, 34, 36, 37, 38, 39, 41, 42] [14, 15, 16, 17, 24] z z_14 := oz_12.i (by decide) ez_14
      intro K_15 hK_35
      have L_36 : ∀ (n : Nat) (v_16 : Int32) (z_17 : St), TM z_17 → Same [0, 1, 22, 34, 36, 37, 38, 39, 41, 42] [14, 15, 16, 17, 24] z z_17 → (0 ≤ v_16.toInt) → (v_16.toInt ≤ 20) → ((gI z_17 36).toInt = 0) → (20 - v_16.toInt).toNat < n → K_15 v_16 z_17 := by
        intro n
        induction n with
        | zero => intro v_16 z_17 tz_17 ocz_17 w_37 w_38 w_39 m_41; omega
        | succ n ih_40 =>
          intro v_16 z_17 tz_17 ocz_17 w_37 w_38 w_39 m_41
          have f_42 : 0 ≤ (gI z_17 36).toInt ∧ (gI z_17 36).toInt ≤ 300 := tz_17.1 36
          refine hK_35 v_16 z_17 ?_
          refine ⟨fun c_18 => ?_, fun c_18 => ?_⟩
          · skip
            have f_43 : 0 ≤ (gI z_17 22).toInt ∧ (gI z_17 22).toInt ≤ 20 := tz_17.1 22
            have i_44 := i_le rfl rfl c_18
            refine s_X9_told (gI z_17 22) z_17 _ tz_17  (fun r_19 z_20 tz_20 o_46 hp_45 => ?_)
            have oz_20 : Same [0, 1, 22, 34, 36, 37, 38, 39, 41, 42] [14, 15, 16, 17, 24] z z_20 := ocz_17.tr o_46 (by decide) (by decide)
            have f_47 : 0 ≤ (gI z_20 36).toInt ∧ (gI z_20 36).toInt ≤ 300 := tz_20.1 36
            have q_48 := (o_46.fi 36 (by decide))
            exact hk r_19 z_20 tz_20 oz_20 (by omega)
          · skip
            have f_49 : 0 ≤ (gI z_17 22).toInt ∧ (gI z_17 22).toInt ≤ 20 := tz_17.1 22
            have i_50 := i_nle rfl rfl c_18
            refine ⟨vin (a_mul (show (4 : Int32).toInt = 4 by decide) rfl (by omega) (by omega)) (by omega) (by omega), ?_⟩
            refine ⟨vin rfl (by omega) (by omega), ?_⟩
            intro z_21 ez_21
            have tz_21 : TM z_21 := by rw [ez_21]; exact Ty_wR tz_17 trivial
            have oz_21 : Same [0, 1, 22, 34, 36, 37, 38, 39, 41, 42] [14, 15, 16, 17, 24] z z_21 := ocz_17.r (by decide) ez_21
            refine ⟨vin (a_add (a_mul (show (4 : Int32).toInt = 4 by decide) rfl (by omega) (by omega)) (show (1 : Int32).toInt = 1 by decide) (by omega) (by omega)) (by omega) (by omega), ?_⟩
            refine ⟨vin rfl (by omega) (by omega), ?_⟩
            intro z_22 ez_22
            have tz_22 : TM z_22 := by rw [ez_22]; exact Ty_wR tz_21 trivial
            have oz_22 : Same [0, 1, 22, 34, 36, 37, 38, 39, 41, 42] [14, 15, 16, 17, 24] z z_22 := oz_21.r (by decide) ez_22
            refine ⟨vin (a_add (a_mul (show (4 : Int32).toInt = 4 by decide) rfl (by omega) (by omega)) (show (2 : Int32).toInt = 2 by decide) (by omega) (by omega)) (by omega) (by omega), ?_⟩
            refine ⟨vin rfl (by omega) (by omega), ?_⟩
            intro z_23 ez_23
            have tz_23 : TM z_23 := by rw [ez_23]; exact Ty_wR tz_22 trivial
            have oz_23 : Same [0, 1, 22, 34, 36, 37, 38, 39, 41, 42] [14, 15, 16, 17, 24] z z_23 := oz_22.r (by decide) ez_23
            refine ⟨vin (a_add (a_mul (show (4 : Int32).toInt = 4 by decide) rfl (by omega) (by omega)) (show (3 : Int32).toInt = 3 by decide) (by omega) (by omega)) (by omega) (by omega), ?_⟩
            refine ⟨vin rfl (by omega) (by omega), ?_⟩
            intro z_24 ez_24
            have tz_24 : TM z_24 := by rw [ez_24]; exact Ty_wR tz_23 trivial
            have oz_24 : Same [0, 1, 22, 34, 36, 37, 38, 39, 41, 42] [14, 15, 16, 17, 24] z z_24 := oz_23.r (by decide) ez_24
            intro y_25 ey_25
            have iy_25 : y_25.toInt = (v_16.toInt + (1)) := by rw [ey_25]; exact (a_add rfl (show (1 : Int32).toInt = 1 by decide) (by omega) (by omega))
            have f_51 : 0 ≤ (gI z_24 36).toInt ∧ (gI z_24 36).toInt ≤ 300 := tz_24.1 36
            have q_52 := ((((show (gI z_24 36).toInt = (gI z_23 36).toInt by rw [ez_24]; rfl)).trans (show (gI z_23 36).toInt = (gI z_22 36).toInt by rw [ez_23]; rfl)).trans (show (gI z_22 36).toInt = (gI z_21 36).toInt by rw [ez_22]; rfl)).trans (show (gI z_21 36).toInt = (gI z_17 36).toInt by rw [ez_21]; rfl)
            exact ih_40 y_25 z_24 tz_24 oz_24 (by omega) (by omega) (by omega) (by omega)
      have g_53 : (0 : Int32).toInt = 0 := by decide
      have f_54 : 0 ≤ (gI z_14 36).toInt ∧ (gI z_14 36).toInt ≤ 300 := tz_14.1 36
      have q_55 := ((show (gI z_14 36).toInt = (gI z_12 36).toInt by rw [ez_14]; rfl)).trans (show (gI z_12 36).toInt = (0 : Int32).toInt by rw [ez_12]; rfl)
      have q_56 : (0 : Int32).toInt = (0) := (show (0 : Int32).toInt = 0 by decide)
      exact L_36 ((20 - (0 : Int32).toInt).toNat + 1) ((0 : Int32)) z_14 tz_14 oz_14 (by omega) (by omega) (by omega) (by omega)
    · skip
      have f_57 : 0 ≤ (gI z_12 42).toInt ∧ (gI z_12 42).toInt ≤ 1 := tz_12.1 42
      have q_58 := (((((show (gI z_12 42).toInt = (gI z6 42).toInt by rw [ez_12]; rfl)).trans (o_8.fi 42 (by decide))).trans (show (gI z5 42).toInt = (gI z4 42).toInt by rw [ez5]; rfl)).trans (show (gI z4 42).toInt = (gI z3 42).toInt by rw [ez4]; rfl)).trans (show (gI z3 42).toInt = (0 : Int32).toInt by rw [ez3]; rfl)
      have q_59 : (0 : Int32).toInt = (0) := (show (0 : Int32).toInt = 0 by decide)
      have i_60 := i_ne rfl (show (0 : Int32).toInt = 0 by decide) c_13
      have g_61 : (-6 : Int32).toInt = -6 := by decide
      refine s_X9_told ((-6 : Int32)) z_12 _ tz_12  (fun r_26 z_27 tz_27 o_63 hp_62 => ?_)
      have oz_27 : Same [0, 1, 22, 34, 36, 37, 38, 39, 41, 42] [14, 15, 16, 17, 24] z z_27 := oz_12.tr o_63 (by decide) (by decide)
      have f_64 : 0 ≤ (gI z_27 36).toInt ∧ (gI z_27 36).toInt ≤ 300 := tz_27.1 36
      have q_65 := ((o_63.fi 36 (by decide))).trans (show (gI z_12 36).toInt = (0 : Int32).toInt by rw [ez_12]; rfl)
      have q_66 : (0 : Int32).toInt = (0) := (show (0 : Int32).toInt = 0 by decide)
      exact hk r_26 z_27 tz_27 oz_27 (by omega)
  · skip
    have i_67 := i_ne rfl (show (0 : Int32).toInt = 0 by decide) c26
    intro K27 hK_68
    have L_69 : ∀ (n : Nat)  (z28 : St), TM z28 → Same [0, 1, 22, 34, 36, 37, 38, 39, 41, 42] [14, 15, 16, 17, 24] z z28 → ((gI z28 36).toInt = (gI z 36).toInt) → ((gI z28 38).toInt ≤ (gI z28 36).toInt) → (22 - (gI z28 34).toInt - (gI z28 42).toInt).toNat < n → K27 z28 := by
      intro n
      induction n with
      | zero => intro z28 tz28 ocz28 w_70 w_71 m_73; omega
      | succ n ih_72 =>
        intro z28 tz28 ocz28 w_70 w_71 m_73
        have f_74 : 0 ≤ (gI z28 36).toInt ∧ (gI z28 36).toInt ≤ 300 := tz28.1 36
        have f_75 : 0 ≤ (gI z28 38).toInt ∧ (gI z28 38).toInt ≤ 300 := tz28.1 38
        have f_76 : 0 ≤ (gI z28 34).toInt ∧ (gI z28 34).toInt ≤ 20 := tz28.1 34
        have f_77 : 0 ≤ (gI z28 42).toInt ∧ (gI z28 42).toInt ≤ 1 := tz28.1 42
        refine hK_68 z28 ?_
        intro K29 hK_78
        refine ⟨fun c34 => ?_, fun c34 => ?_⟩
        · skip
          have i_79 := i_ne rfl (show (0 : Int32).toInt = 0 by decide) c34
          refine hK_78  ?_
          refine ⟨fun c_80 => ?_, fun c_80 => ?_⟩
          · skip
            have i_83 := i_ne rfl (show (0 : Int32).toInt = 0 by decide) c_80
            refine hK_10 z28 ?_
            intro z_84 ez_84
            have tz_84 : TM z_84 := by rw [ez_84]; exact Ty_wI tz28 (show 0 ≤ (0 : Int32).toInt ∧ (0 : Int32).toInt ≤ 300 from by rw [(show (0 : Int32).toInt = 0 by decide)]; omega)
            have oz_84 : Same [0, 1, 22, 34, 36, 37, 38, 39, 41, 42] [14, 15, 16, 17, 24] z z_84 := ocz28.i (by decide) ez_84
            refine ⟨fun c_85 => ?_, fun c_85 => ?_⟩
            · skip
              have f_100 : 0 ≤ (gI z_84 42).toInt ∧ (gI z_84 42).toInt ≤ 1 := tz_84.1 42
              have q_101 := (show (gI z_84 42).toInt = (gI z28 42).toInt by rw [ez_84]; rfl)
              have i_102 := i_eq rfl (show (0 : Int32).toInt = 0 by decide) c_85
              intro z_86 ez_86
              have f_103 : 0 ≤ (gI z_84 34).toInt ∧ (gI z_84 34).toInt ≤ 20 := tz_84.1 34
              have q_104 := (show (gI z_84 34).toInt = (gI z28 34).toInt by rw [ez_84]; rfl)
              have tz_86 : TM z_86 := by rw [ez_86]; exact Ty_wI tz_84 (show 0 ≤ (gI z_84 34).toInt ∧ (gI z_84 34).toInt ≤ 20 from by omega)
              have oz_86 : Same [0, 1, 22, 34, 36, 37, 38, 39, 41, 42] [14, 15, 16, 17, 24] z z_86 := oz_84.i (by decide) ez_86
              intro K_87 hK_105
              have L_106 : ∀ (n : Nat) (v_88 : Int32) (z_89 : St), TM z_89 → Same [0, 1, 22, 34, 36, 37, 38, 39, 41, 42] [14, 15, 16, 17, 24] z z_89 → (0 ≤ v_88.toInt) → (v_88.toInt ≤ 20) → ((gI z_89 36).toInt = 0) → (20 - v_88.toInt).toNat < n → K_87 v_88 z_89 := by
                intro n
                induction n with
                | zero => intro v_88 z_89 tz_89 ocz_89 w_107 w_108 w_109 m_111; omega
                | succ n ih_110 =>
                  intro v_88 z_89 tz_89 ocz_89 w_107 w_108 w_109 m_111
                  have f_112 : 0 ≤ (gI z_89 36).toInt ∧ (gI z_89 36).toInt ≤ 300 := tz_89.1 36
                  refine hK_105 v_88 z_89 ?_
                  refine ⟨fun c_90 => ?_, fun c_90 => ?_⟩
                  · skip
                    have f_113 : 0 ≤ (gI z_89 22).toInt ∧ (gI z_89 22).toInt ≤ 20 := tz_89.1 22
                    have i_114 := i_le rfl rfl c_90
                    refine s_X9_told (gI z_89 22) z_89 _ tz_89  (fun r_91 z_92 tz_92 o_116 hp_115 => ?_)
                    have oz_92 : Same [0, 1, 22, 34, 36, 37, 38, 39, 41, 42] [14, 15, 16, 17, 24] z z_92 := ocz_89.tr o_116 (by decide) (by decide)
                    have f_117 : 0 ≤ (gI z_92 36).toInt ∧ (gI z_92 36).toInt ≤ 300 := tz_92.1 36
                    have q_118 := (o_116.fi 36 (by decide))
                    exact hk r_91 z_92 tz_92 oz_92 (by omega)
                  · skip
                    have f_119 : 0 ≤ (gI z_89 22).toInt ∧ (gI z_89 22).toInt ≤ 20 := tz_89.1 22
                    have i_120 := i_nle rfl rfl c_90
                    refine ⟨vin (a_mul (show (4 : Int32).toInt = 4 by decide) rfl (by omega) (by omega)) (by omega) (by omega), ?_⟩
                    refine ⟨vin rfl (by omega) (by omega), ?_⟩
                    intro z_93 ez_93
                    have tz_93 : TM z_93 := by rw [ez_93]; exact Ty_wR tz_89 trivial
                    have oz_93 : Same [0, 1, 22, 34, 36, 37, 38, 39, 41, 42] [14, 15, 16, 17, 24] z z_93 := ocz_89.r (by decide) ez_93
                    refine ⟨vin (a_add (a_mul (show (4 : Int32).toInt = 4 by decide) rfl (by omega) (by omega)) (show (1 : Int32).toInt = 1 by decide) (by omega) (by omega)) (by omega) (by omega), ?_⟩
                    refine ⟨vin rfl (by omega) (by omega), ?_⟩
                    intro z_94 ez_94
                    have tz_94 : TM z_94 := by rw [ez_94]; exact Ty_wR tz_93 trivial
                    have oz_94 : Same [0, 1, 22, 34, 36, 37, 38, 39, 41, 42] [14, 15, 16, 17, 24] z z_94 := oz_93.r (by decide) ez_94
                    refine ⟨vin (a_add (a_mul (show (4 : Int32).toInt = 4 by decide) rfl (by omega) (by omega)) (show (2 : Int32).toInt = 2 by decide) (by omega) (by omega)) (by omega) (by omega), ?_⟩
                    refine ⟨vin rfl (by omega) (by omega), ?_⟩
                    intro z_95 ez_95
                    have tz_95 : TM z_95 := by rw [ez_95]; exact Ty_wR tz_94 trivial
                    have oz_95 : Same [0, 1, 22, 34, 36, 37, 38, 39, 41, 42] [14, 15, 16, 17, 24] z z_95 := oz_94.r (by decide) ez_95
                    refine ⟨vin (a_add (a_mul (show (4 : Int32).toInt = 4 by decide) rfl (by omega) (by omega)) (show (3 : Int32).toInt = 3 by decide) (by omega) (by omega)) (by omega) (by omega), ?_⟩
                    refine ⟨vin rfl (by omega) (by omega), ?_⟩
                    intro z_96 ez_96
                    have tz_96 : TM z_96 := by rw [ez_96]; exact Ty_wR tz_95 trivial
                    have oz_96 : Same [0, 1, 22, 34, 36, 37, 38, 39, 41, 42] [14, 15, 16, 17, 24] z z_96 := oz_95.r (by decide) ez_96
                    intro y_97 ey_97
                    have iy_97 : y_97.toInt = (v_88.toInt + (1)) := by rw [ey_97]; exact (a_add rfl (show (1 : Int32).toInt = 1 by decide) (by omega) (by omega))
                    have f_121 : 0 ≤ (gI z_96 36).toInt ∧ (gI z_96 36).toInt ≤ 300 := tz_96.1 36
                    have q_122 := ((((show (gI z_96 36).toInt = (gI z_95 36).toInt by rw [ez_96]; rfl)).trans (show (gI z_95 36).toInt = (gI z_94 36).toInt by rw [ez_95]; rfl)).trans (show (gI z_94 36).toInt = (gI z_93 36).toInt by rw [ez_94]; rfl)).trans (show (gI z_93 36).toInt = (gI z_89 36).toInt by rw [ez_93]; rfl)
                    exact ih_110 y_97 z_96 tz_96 oz_96 (by omega) (by omega) (by omega) (by omega)
              have g_123 : (0 : Int32).toInt = 0 := by decide
              have f_124 : 0 ≤ (gI z_86 36).toInt ∧ (gI z_86 36).toInt ≤ 300 := tz_86.1 36
              have q_125 := ((show (gI z_86 36).toInt = (gI z_84 36).toInt by rw [ez_86]; rfl)).trans (show (gI z_84 36).toInt = (0 : Int32).toInt by rw [ez_84]; rfl)
              have q_126 : (0 : Int32).toInt = (0) := (show (0 : Int32).toInt = 0 by decide)
              exact L_106 ((20 - (0 : Int32).toInt).toNat + 1) ((0 : Int32)) z_86 tz_86 oz_86 (by omega) (by omega) (by omega) (by omega)
            · skip
              have f_127 : 0 ≤ (gI z_84 42).toInt ∧ (gI z_84 42).toInt ≤ 1 := tz_84.1 42
              have q_128 := (show (gI z_84 42).toInt = (gI z28 42).toInt by rw [ez_84]; rfl)
              have i_129 := i_ne rfl (show (0 : Int32).toInt = 0 by decide) c_85
              have g_130 : (-6 : Int32).toInt = -6 := by decide
              refine s_X9_told ((-6 : Int32)) z_84 _ tz_84  (fun r_98 z_99 tz_99 o_132 hp_131 => ?_)
              have oz_99 : Same [0, 1, 22, 34, 36, 37, 38, 39, 41, 42] [14, 15, 16, 17, 24] z z_99 := oz_84.tr o_132 (by decide) (by decide)
              have f_133 : 0 ≤ (gI z_99 36).toInt ∧ (gI z_99 36).toInt ≤ 300 := tz_99.1 36
              have q_134 := ((o_132.fi 36 (by decide))).trans (show (gI z_84 36).toInt = (0 : Int32).toInt by rw [ez_84]; rfl)
              have q_135 : (0 : Int32).toInt = (0) := (show (0 : Int32).toInt = 0 by decide)
              exact hk r_98 z_99 tz_99 oz_99 (by omega)
          · skip
            have i_136 := i_eq rfl (show (0 : Int32).toInt = 0 by decide) c_80
            refine ⟨fun c_81 => ?_, fun c_81 => ?_⟩
            · skip
              have i_137 := i_eq rfl (show (0 : Int32).toInt = 0 by decide) c_81
              refine hK_10 z28 ?_
              intro z_138 ez_138
              have tz_138 : TM z_138 := by rw [ez_138]; exact Ty_wI tz28 (show 0 ≤ (0 : Int32).toInt ∧ (0 : Int32).toInt ≤ 300 from by rw [(show (0 : Int32).toInt = 0 by decide)]; omega)
              have oz_138 : Same [0, 1, 22, 34, 36, 37, 38, 39, 41, 42] [14, 15, 16, 17, 24] z z_138 := ocz28.i (by decide) ez_138
              refine ⟨fun c_139 => ?_, fun c_139 => ?_⟩
              · skip
                have f_154 : 0 ≤ (gI z_138 42).toInt ∧ (gI z_138 42).toInt ≤ 1 := tz_138.1 42
                have q_155 := (show (gI z_138 42).toInt = (gI z28 42).toInt by rw [ez_138]; rfl)
                have i_156 := i_eq rfl (show (0 : Int32).toInt = 0 by decide) c_139
                intro z_140 ez_140
                have f_157 : 0 ≤ (gI z_138 34).toInt ∧ (gI z_138 34).toInt ≤ 20 := tz_138.1 34
                have q_158 := (show (gI z_138 34).toInt = (gI z28 34).toInt by rw [ez_138]; rfl)
                have tz_140 : TM z_140 := by rw [ez_140]; exact Ty_wI tz_138 (show 0 ≤ (gI z_138 34).toInt ∧ (gI z_138 34).toInt ≤ 20 from by omega)
                have oz_140 : Same [0, 1, 22, 34, 36, 37, 38, 39, 41, 42] [14, 15, 16, 17, 24] z z_140 := oz_138.i (by decide) ez_140
                intro K_141 hK_159
                have L_160 : ∀ (n : Nat) (v_142 : Int32) (z_143 : St), TM z_143 → Same [0, 1, 22, 34, 36, 37, 38, 39, 41, 42] [14, 15, 16, 17, 24] z z_143 → (0 ≤ v_142.toInt) → (v_142.toInt ≤ 20) → ((gI z_143 36).toInt = 0) → (20 - v_142.toInt).toNat < n → K_141 v_142 z_143 := by
                  intro n
                  induction n with
                  | zero => intro v_142 z_143 tz_143 ocz_143 w_161 w_162 w_163 m_165; omega
                  | succ n ih_164 =>
                    intro v_142 z_143 tz_143 ocz_143 w_161 w_162 w_163 m_165
                    have f_166 : 0 ≤ (gI z_143 36).toInt ∧ (gI z_143 36).toInt ≤ 300 := tz_143.1 36
                    refine hK_159 v_142 z_143 ?_
                    refine ⟨fun c_144 => ?_, fun c_144 => ?_⟩
                    · skip
                      have f_167 : 0 ≤ (gI z_143 22).toInt ∧ (gI z_143 22).toInt ≤ 20 := tz_143.1 22
                      have i_168 := i_le rfl rfl c_144
                      refine s_X9_told (gI z_143 22) z_143 _ tz_143  (fun r_145 z_146 tz_146 o_170 hp_169 => ?_)
                      have oz_146 : Same [0, 1, 22, 34, 36, 37, 38, 39, 41, 42] [14, 15, 16, 17, 24] z z_146 := ocz_143.tr o_170 (by decide) (by decide)
                      have f_171 : 0 ≤ (gI z_146 36).toInt ∧ (gI z_146 36).toInt ≤ 300 := tz_146.1 36
                      have q_172 := (o_170.fi 36 (by decide))
                      exact hk r_145 z_146 tz_146 oz_146 (by omega)
                    · skip
                      have f_173 : 0 ≤ (gI z_143 22).toInt ∧ (gI z_143 22).toInt ≤ 20 := tz_143.1 22
                      have i_174 := i_nle rfl rfl c_144
                      refine ⟨vin (a_mul (show (4 : Int32).toInt = 4 by decide) rfl (by omega) (by omega)) (by omega) (by omega), ?_⟩
                      refine ⟨vin rfl (by omega) (by omega), ?_⟩
                      intro z_147 ez_147
                      have tz_147 : TM z_147 := by rw [ez_147]; exact Ty_wR tz_143 trivial
                      have oz_147 : Same [0, 1, 22, 34, 36, 37, 38, 39, 41, 42] [14, 15, 16, 17, 24] z z_147 := ocz_143.r (by decide) ez_147
                      refine ⟨vin (a_add (a_mul (show (4 : Int32).toInt = 4 by decide) rfl (by omega) (by omega)) (show (1 : Int32).toInt = 1 by decide) (by omega) (by omega)) (by omega) (by omega), ?_⟩
                      refine ⟨vin rfl (by omega) (by omega), ?_⟩
                      intro z_148 ez_148
                      have tz_148 : TM z_148 := by rw [ez_148]; exact Ty_wR tz_147 trivial
                      have oz_148 : Same [0, 1, 22, 34, 36, 37, 38, 39, 41, 42] [14, 15, 16, 17, 24] z z_148 := oz_147.r (by decide) ez_148
                      refine ⟨vin (a_add (a_mul (show (4 : Int32).toInt = 4 by decide) rfl (by omega) (by omega)) (show (2 : Int32).toInt = 2 by decide) (by omega) (by omega)) (by omega) (by omega), ?_⟩
                      refine ⟨vin rfl (by omega) (by omega), ?_⟩
                      intro z_149 ez_149
                      have tz_149 : TM z_149 := by rw [ez_149]; exact Ty_wR tz_148 trivial
                      have oz_149 : Same [0, 1, 22, 34, 36, 37, 38, 39, 41, 42] [14, 15, 16, 17, 24] z z_149 := oz_148.r (by decide) ez_149
                      refine ⟨vin (a_add (a_mul (show (4 : Int32).toInt = 4 by decide) rfl (by omega) (by omega)) (show (3 : Int32).toInt = 3 by decide) (by omega) (by omega)) (by omega) (by omega), ?_⟩
                      refine ⟨vin rfl (by omega) (by omega), ?_⟩
                      intro z_150 ez_150
                      have tz_150 : TM z_150 := by rw [ez_150]; exact Ty_wR tz_149 trivial
                      have oz_150 : Same [0, 1, 22, 34, 36, 37, 38, 39, 41, 42] [14, 15, 16, 17, 24] z z_150 := oz_149.r (by decide) ez_150
                      intro y_151 ey_151
                      have iy_151 : y_151.toInt = (v_142.toInt + (1)) := by rw [ey_151]; exact (a_add rfl (show (1 : Int32).toInt = 1 by decide) (by omega) (by omega))
                      have f_175 : 0 ≤ (gI z_150 36).toInt ∧ (gI z_150 36).toInt ≤ 300 := tz_150.1 36
                      have q_176 := ((((show (gI z_150 36).toInt = (gI z_149 36).toInt by rw [ez_150]; rfl)).trans (show (gI z_149 36).toInt = (gI z_148 36).toInt by rw [ez_149]; rfl)).trans (show (gI z_148 36).toInt = (gI z_147 36).toInt by rw [ez_148]; rfl)).trans (show (gI z_147 36).toInt = (gI z_143 36).toInt by rw [ez_147]; rfl)
                      exact ih_164 y_151 z_150 tz_150 oz_150 (by omega) (by omega) (by omega) (by omega)
                have g_177 : (0 : Int32).toInt = 0 := by decide
                have f_178 : 0 ≤ (gI z_140 36).toInt ∧ (gI z_140 36).toInt ≤ 300 := tz_140.1 36
                have q_179 := ((show (gI z_140 36).toInt = (gI z_138 36).toInt by rw [ez_140]; rfl)).trans (show (gI z_138 36).toInt = (0 : Int32).toInt by rw [ez_138]; rfl)
                have q_180 : (0 : Int32).toInt = (0) := (show (0 : Int32).toInt = 0 by decide)
                exact L_160 ((20 - (0 : Int32).toInt).toNat + 1) ((0 : Int32)) z_140 tz_140 oz_140 (by omega) (by omega) (by omega) (by omega)
              · skip
                have f_181 : 0 ≤ (gI z_138 42).toInt ∧ (gI z_138 42).toInt ≤ 1 := tz_138.1 42
                have q_182 := (show (gI z_138 42).toInt = (gI z28 42).toInt by rw [ez_138]; rfl)
                have i_183 := i_ne rfl (show (0 : Int32).toInt = 0 by decide) c_139
                have g_184 : (-6 : Int32).toInt = -6 := by decide
                refine s_X9_told ((-6 : Int32)) z_138 _ tz_138  (fun r_152 z_153 tz_153 o_186 hp_185 => ?_)
                have oz_153 : Same [0, 1, 22, 34, 36, 37, 38, 39, 41, 42] [14, 15, 16, 17, 24] z z_153 := oz_138.tr o_186 (by decide) (by decide)
                have f_187 : 0 ≤ (gI z_153 36).toInt ∧ (gI z_153 36).toInt ≤ 300 := tz_153.1 36
                have q_188 := ((o_186.fi 36 (by decide))).trans (show (gI z_138 36).toInt = (0 : Int32).toInt by rw [ez_138]; rfl)
                have q_189 : (0 : Int32).toInt = (0) := (show (0 : Int32).toInt = 0 by decide)
                exact hk r_152 z_153 tz_153 oz_153 (by omega)
            · skip
              have i_190 := i_ne rfl (show (0 : Int32).toInt = 0 by decide) c_81
              have g_191 : (0 : Int32).toInt = 0 := by decide
              refine s_X9_must ((0 : Int32)) z28 _ tz28 (by omega) (fun z_82 tz_82 o_193 hp_192 => ?_)
              have oz_82 : Same [0, 1, 22, 34, 36, 37, 38, 39, 41, 42] [14, 15, 16, 17, 24] z z_82 := ocz28.tr o_193 (by decide) (by decide)
              have f_194 : 0 ≤ (gI z_82 38).toInt ∧ (gI z_82 38).toInt ≤ 300 := tz_82.1 38
              have f_195 : 0 ≤ (gI z_82 42).toInt ∧ (gI z_82 42).toInt ≤ 1 := tz_82.1 42
              refine hK_10 z_82 ?_
              intro z_196 ez_196
              have tz_196 : TM z_196 := by rw [ez_196]; exact Ty_wI tz_82 (show 0 ≤ (0 : Int32).toInt ∧ (0 : Int32).toInt ≤ 300 from by rw [(show (0 : Int32).toInt = 0 by decide)]; omega)
              have oz_196 : Same [0, 1, 22, 34, 36, 37, 38, 39, 41, 42] [14, 15, 16, 17, 24] z z_196 := oz_82.i (by decide) ez_196
              refine ⟨fun c_197 => ?_, fun c_197 => ?_⟩
              · skip
                have f_212 : 0 ≤ (gI z_196 42).toInt ∧ (gI z_196 42).toInt ≤ 1 := tz_196.1 42
                have q_213 := (show (gI z_196 42).toInt = (gI z_82 42).toInt by rw [ez_196]; rfl)
                have i_214 := i_eq rfl (show (0 : Int32).toInt = 0 by decide) c_197
                intro z_198 ez_198
                have f_215 : 0 ≤ (gI z_196 34).toInt ∧ (gI z_196 34).toInt ≤ 20 := tz_196.1 34
                have q_216 := ((show (gI z_196 34).toInt = (gI z_82 34).toInt by rw [ez_196]; rfl)).trans (o_193.fi 34 (by decide))
                have tz_198 : TM z_198 := by rw [ez_198]; exact Ty_wI tz_196 (show 0 ≤ (gI z_196 34).toInt ∧ (gI z_196 34).toInt ≤ 20 from by omega)
                have oz_198 : Same [0, 1, 22, 34, 36, 37, 38, 39, 41, 42] [14, 15, 16, 17, 24] z z_198 := oz_196.i (by decide) ez_198
                intro K_199 hK_217
                have L_218 : ∀ (n : Nat) (v_200 : Int32) (z_201 : St), TM z_201 → Same [0, 1, 22, 34, 36, 37, 38, 39, 41, 42] [14, 15, 16, 17, 24] z z_201 → (0 ≤ v_200.toInt) → (v_200.toInt ≤ 20) → ((gI z_201 36).toInt = 0) → (20 - v_200.toInt).toNat < n → K_199 v_200 z_201 := by
                  intro n
                  induction n with
                  | zero => intro v_200 z_201 tz_201 ocz_201 w_219 w_220 w_221 m_223; omega
                  | succ n ih_222 =>
                    intro v_200 z_201 tz_201 ocz_201 w_219 w_220 w_221 m_223
                    have f_224 : 0 ≤ (gI z_201 36).toInt ∧ (gI z_201 36).toInt ≤ 300 := tz_201.1 36
                    refine hK_217 v_200 z_201 ?_
                    refine ⟨fun c_202 => ?_, fun c_202 => ?_⟩
                    · skip
                      have f_225 : 0 ≤ (gI z_201 22).toInt ∧ (gI z_201 22).toInt ≤ 20 := tz_201.1 22
                      have i_226 := i_le rfl rfl c_202
                      refine s_X9_told (gI z_201 22) z_201 _ tz_201  (fun r_203 z_204 tz_204 o_228 hp_227 => ?_)
                      have oz_204 : Same [0, 1, 22, 34, 36, 37, 38, 39, 41, 42] [14, 15, 16, 17, 24] z z_204 := ocz_201.tr o_228 (by decide) (by decide)
                      have f_229 : 0 ≤ (gI z_204 36).toInt ∧ (gI z_204 36).toInt ≤ 300 := tz_204.1 36
                      have q_230 := (o_228.fi 36 (by decide))
                      exact hk r_203 z_204 tz_204 oz_204 (by omega)
                    · skip
                      have f_231 : 0 ≤ (gI z_201 22).toInt ∧ (gI z_201 22).toInt ≤ 20 := tz_201.1 22
                      have i_232 := i_nle rfl rfl c_202
                      refine ⟨vin (a_mul (show (4 : Int32).toInt = 4 by decide) rfl (by omega) (by omega)) (by omega) (by omega), ?_⟩
                      refine ⟨vin rfl (by omega) (by omega), ?_⟩
                      intro z_205 ez_205
                      have tz_205 : TM z_205 := by rw [ez_205]; exact Ty_wR tz_201 trivial
                      have oz_205 : Same [0, 1, 22, 34, 36, 37, 38, 39, 41, 42] [14, 15, 16, 17, 24] z z_205 := ocz_201.r (by decide) ez_205
                      refine ⟨vin (a_add (a_mul (show (4 : Int32).toInt = 4 by decide) rfl (by omega) (by omega)) (show (1 : Int32).toInt = 1 by decide) (by omega) (by omega)) (by omega) (by omega), ?_⟩
                      refine ⟨vin rfl (by omega) (by omega), ?_⟩
                      intro z_206 ez_206
                      have tz_206 : TM z_206 := by rw [ez_206]; exact Ty_wR tz_205 trivial
                      have oz_206 : Same [0, 1, 22, 34, 36, 37, 38, 39, 41, 42] [14, 15, 16, 17, 24] z z_206 := oz_205.r (by decide) ez_206
                      refine ⟨vin (a_add (a_mul (show (4 : Int32).toInt = 4 by decide) rfl (by omega) (by omega)) (show (2 : Int32).toInt = 2 by decide) (by omega) (by omega)) (by omega) (by omega), ?_⟩
                      refine ⟨vin rfl (by omega) (by omega), ?_⟩
                      intro z_207 ez_207
                      have tz_207 : TM z_207 := by rw [ez_207]; exact Ty_wR tz_206 trivial
                      have oz_207 : Same [0, 1, 22, 34, 36, 37, 38, 39, 41, 42] [14, 15, 16, 17, 24] z z_207 := oz_206.r (by decide) ez_207
                      refine ⟨vin (a_add (a_mul (show (4 : Int32).toInt = 4 by decide) rfl (by omega) (by omega)) (show (3 : Int32).toInt = 3 by decide) (by omega) (by omega)) (by omega) (by omega), ?_⟩
                      refine ⟨vin rfl (by omega) (by omega), ?_⟩
                      intro z_208 ez_208
                      have tz_208 : TM z_208 := by rw [ez_208]; exact Ty_wR tz_207 trivial
                      have oz_208 : Same [0, 1, 22, 34, 36, 37, 38, 39, 41, 42] [14, 15, 16, 17, 24] z z_208 := oz_207.r (by decide) ez_208
                      intro y_209 ey_209
                      have iy_209 : y_209.toInt = (v_200.toInt + (1)) := by rw [ey_209]; exact (a_add rfl (show (1 : Int32).toInt = 1 by decide) (by omega) (by omega))
                      have f_233 : 0 ≤ (gI z_208 36).toInt ∧ (gI z_208 36).toInt ≤ 300 := tz_208.1 36
                      have q_234 := ((((show (gI z_208 36).toInt = (gI z_207 36).toInt by rw [ez_208]; rfl)).trans (show (gI z_207 36).toInt = (gI z_206 36).toInt by rw [ez_207]; rfl)).trans (show (gI z_206 36).toInt = (gI z_205 36).toInt by rw [ez_206]; rfl)).trans (show (gI z_205 36).toInt = (gI z_201 36).toInt by rw [ez_205]; rfl)
                      exact ih_222 y_209 z_208 tz_208 oz_208 (by omega) (by omega) (by omega) (by omega)
                have g_235 : (0 : Int32).toInt = 0 := by decide
                have f_236 : 0 ≤ (gI z_198 36).toInt ∧ (gI z_198 36).toInt ≤ 300 := tz_198.1 36
                have q_237 := ((show (gI z_198 36).toInt = (gI z_196 36).toInt by rw [ez_198]; rfl)).trans (show (gI z_196 36).toInt = (0 : Int32).toInt by rw [ez_196]; rfl)
                have q_238 : (0 : Int32).toInt = (0) := (show (0 : Int32).toInt = 0 by decide)
                exact L_218 ((20 - (0 : Int32).toInt).toNat + 1) ((0 : Int32)) z_198 tz_198 oz_198 (by omega) (by omega) (by omega) (by omega)
              · skip
                have f_239 : 0 ≤ (gI z_196 42).toInt ∧ (gI z_196 42).toInt ≤ 1 := tz_196.1 42
                have q_240 := (show (gI z_196 42).toInt = (gI z_82 42).toInt by rw [ez_196]; rfl)
                have i_241 := i_ne rfl (show (0 : Int32).toInt = 0 by decide) c_197
                have g_242 : (-6 : Int32).toInt = -6 := by decide
                refine s_X9_told ((-6 : Int32)) z_196 _ tz_196  (fun r_210 z_211 tz_211 o_244 hp_243 => ?_)
                have oz_211 : Same [0, 1, 22, 34, 36, 37, 38, 39, 41, 42] [14, 15, 16, 17, 24] z z_211 := oz_196.tr o_244 (by decide) (by decide)
                have f_245 : 0 ≤ (gI z_211 36).toInt ∧ (gI z_211 36).toInt ≤ 300 := tz_211.1 36
                have q_246 := ((o_244.fi 36 (by decide))).trans (show (gI z_196 36).toInt = (0 : Int32).toInt by rw [ez_196]; rfl)
                have q_247 : (0 : Int32).toInt = (0) := (show (0 : Int32).toInt = 0 by decide)
                exact hk r_210 z_211 tz_211 oz_211 (by omega)
        · skip
          have i_248 := i_eq rfl (show (0 : Int32).toInt = 0 by decide) c34
          refine ⟨fun c35 => ?_, fun c35 => ?_⟩
          · skip
            have i_249 := i_ne rfl (show (3 : Int32).toInt = 3 by decide) c35
            refine hK_78  ?_
            refine ⟨fun c_250 => ?_, fun c_250 => ?_⟩
            · skip
              have i_253 := i_ne rfl (show (0 : Int32).toInt = 0 by decide) c_250
              refine hK_10 z28 ?_
              intro z_254 ez_254
              have tz_254 : TM z_254 := by rw [ez_254]; exact Ty_wI tz28 (show 0 ≤ (0 : Int32).toInt ∧ (0 : Int32).toInt ≤ 300 from by rw [(show (0 : Int32).toInt = 0 by decide)]; omega)
              have oz_254 : Same [0, 1, 22, 34, 36, 37, 38, 39, 41, 42] [14, 15, 16, 17, 24] z z_254 := ocz28.i (by decide) ez_254
              refine ⟨fun c_255 => ?_, fun c_255 => ?_⟩
              · skip
                have f_270 : 0 ≤ (gI z_254 42).toInt ∧ (gI z_254 42).toInt ≤ 1 := tz_254.1 42
                have q_271 := (show (gI z_254 42).toInt = (gI z28 42).toInt by rw [ez_254]; rfl)
                have i_272 := i_eq rfl (show (0 : Int32).toInt = 0 by decide) c_255
                intro z_256 ez_256
                have f_273 : 0 ≤ (gI z_254 34).toInt ∧ (gI z_254 34).toInt ≤ 20 := tz_254.1 34
                have q_274 := (show (gI z_254 34).toInt = (gI z28 34).toInt by rw [ez_254]; rfl)
                have tz_256 : TM z_256 := by rw [ez_256]; exact Ty_wI tz_254 (show 0 ≤ (gI z_254 34).toInt ∧ (gI z_254 34).toInt ≤ 20 from by omega)
                have oz_256 : Same [0, 1, 22, 34, 36, 37, 38, 39, 41, 42] [14, 15, 16, 17, 24] z z_256 := oz_254.i (by decide) ez_256
                intro K_257 hK_275
                have L_276 : ∀ (n : Nat) (v_258 : Int32) (z_259 : St), TM z_259 → Same [0, 1, 22, 34, 36, 37, 38, 39, 41, 42] [14, 15, 16, 17, 24] z z_259 → (0 ≤ v_258.toInt) → (v_258.toInt ≤ 20) → ((gI z_259 36).toInt = 0) → (20 - v_258.toInt).toNat < n → K_257 v_258 z_259 := by
                  intro n
                  induction n with
                  | zero => intro v_258 z_259 tz_259 ocz_259 w_277 w_278 w_279 m_281; omega
                  | succ n ih_280 =>
                    intro v_258 z_259 tz_259 ocz_259 w_277 w_278 w_279 m_281
                    have f_282 : 0 ≤ (gI z_259 36).toInt ∧ (gI z_259 36).toInt ≤ 300 := tz_259.1 36
                    refine hK_275 v_258 z_259 ?_
                    refine ⟨fun c_260 => ?_, fun c_260 => ?_⟩
                    · skip
                      have f_283 : 0 ≤ (gI z_259 22).toInt ∧ (gI z_259 22).toInt ≤ 20 := tz_259.1 22
                      have i_284 := i_le rfl rfl c_260
                      refine s_X9_told (gI z_259 22) z_259 _ tz_259  (fun r_261 z_262 tz_262 o_286 hp_285 => ?_)
                      have oz_262 : Same [0, 1, 22, 34, 36, 37, 38, 39, 41, 42] [14, 15, 16, 17, 24] z z_262 := ocz_259.tr o_286 (by decide) (by decide)
                      have f_287 : 0 ≤ (gI z_262 36).toInt ∧ (gI z_262 36).toInt ≤ 300 := tz_262.1 36
                      have q_288 := (o_286.fi 36 (by decide))
                      exact hk r_261 z_262 tz_262 oz_262 (by omega)
                    · skip
                      have f_289 : 0 ≤ (gI z_259 22).toInt ∧ (gI z_259 22).toInt ≤ 20 := tz_259.1 22
                      have i_290 := i_nle rfl rfl c_260
                      refine ⟨vin (a_mul (show (4 : Int32).toInt = 4 by decide) rfl (by omega) (by omega)) (by omega) (by omega), ?_⟩
                      refine ⟨vin rfl (by omega) (by omega), ?_⟩
                      intro z_263 ez_263
                      have tz_263 : TM z_263 := by rw [ez_263]; exact Ty_wR tz_259 trivial
                      have oz_263 : Same [0, 1, 22, 34, 36, 37, 38, 39, 41, 42] [14, 15, 16, 17, 24] z z_263 := ocz_259.r (by decide) ez_263
                      refine ⟨vin (a_add (a_mul (show (4 : Int32).toInt = 4 by decide) rfl (by omega) (by omega)) (show (1 : Int32).toInt = 1 by decide) (by omega) (by omega)) (by omega) (by omega), ?_⟩
                      refine ⟨vin rfl (by omega) (by omega), ?_⟩
                      intro z_264 ez_264
                      have tz_264 : TM z_264 := by rw [ez_264]; exact Ty_wR tz_263 trivial
                      have oz_264 : Same [0, 1, 22, 34, 36, 37, 38, 39, 41, 42] [14, 15, 16, 17, 24] z z_264 := oz_263.r (by decide) ez_264
                      refine ⟨vin (a_add (a_mul (show (4 : Int32).toInt = 4 by decide) rfl (by omega) (by omega)) (show (2 : Int32).toInt = 2 by decide) (by omega) (by omega)) (by omega) (by omega), ?_⟩
                      refine ⟨vin rfl (by omega) (by omega), ?_⟩
                      intro z_265 ez_265
                      have tz_265 : TM z_265 := by rw [ez_265]; exact Ty_wR tz_264 trivial
                      have oz_265 : Same [0, 1, 22, 34, 36, 37, 38, 39, 41, 42] [14, 15, 16, 17, 24] z z_265 := oz_264.r (by decide) ez_265
                      refine ⟨vin (a_add (a_mul (show (4 : Int32).toInt = 4 by decide) rfl (by omega) (by omega)) (show (3 : Int32).toInt = 3 by decide) (by omega) (by omega)) (by omega) (by omega), ?_⟩
                      refine ⟨vin rfl (by omega) (by omega), ?_⟩
                      intro z_266 ez_266
                      have tz_266 : TM z_266 := by rw [ez_266]; exact Ty_wR tz_265 trivial
                      have oz_266 : Same [0, 1, 22, 34, 36, 37, 38, 39, 41, 42] [14, 15, 16, 17, 24] z z_266 := oz_265.r (by decide) ez_266
                      intro y_267 ey_267
                      have iy_267 : y_267.toInt = (v_258.toInt + (1)) := by rw [ey_267]; exact (a_add rfl (show (1 : Int32).toInt = 1 by decide) (by omega) (by omega))
                      have f_291 : 0 ≤ (gI z_266 36).toInt ∧ (gI z_266 36).toInt ≤ 300 := tz_266.1 36
                      have q_292 := ((((show (gI z_266 36).toInt = (gI z_265 36).toInt by rw [ez_266]; rfl)).trans (show (gI z_265 36).toInt = (gI z_264 36).toInt by rw [ez_265]; rfl)).trans (show (gI z_264 36).toInt = (gI z_263 36).toInt by rw [ez_264]; rfl)).trans (show (gI z_263 36).toInt = (gI z_259 36).toInt by rw [ez_263]; rfl)
                      exact ih_280 y_267 z_266 tz_266 oz_266 (by omega) (by omega) (by omega) (by omega)
                have g_293 : (0 : Int32).toInt = 0 := by decide
                have f_294 : 0 ≤ (gI z_256 36).toInt ∧ (gI z_256 36).toInt ≤ 300 := tz_256.1 36
                have q_295 := ((show (gI z_256 36).toInt = (gI z_254 36).toInt by rw [ez_256]; rfl)).trans (show (gI z_254 36).toInt = (0 : Int32).toInt by rw [ez_254]; rfl)
                have q_296 : (0 : Int32).toInt = (0) := (show (0 : Int32).toInt = 0 by decide)
                exact L_276 ((20 - (0 : Int32).toInt).toNat + 1) ((0 : Int32)) z_256 tz_256 oz_256 (by omega) (by omega) (by omega) (by omega)
              · skip
                have f_297 : 0 ≤ (gI z_254 42).toInt ∧ (gI z_254 42).toInt ≤ 1 := tz_254.1 42
                have q_298 := (show (gI z_254 42).toInt = (gI z28 42).toInt by rw [ez_254]; rfl)
                have i_299 := i_ne rfl (show (0 : Int32).toInt = 0 by decide) c_255
                have g_300 : (-6 : Int32).toInt = -6 := by decide
                refine s_X9_told ((-6 : Int32)) z_254 _ tz_254  (fun r_268 z_269 tz_269 o_302 hp_301 => ?_)
                have oz_269 : Same [0, 1, 22, 34, 36, 37, 38, 39, 41, 42] [14, 15, 16, 17, 24] z z_269 := oz_254.tr o_302 (by decide) (by decide)
                have f_303 : 0 ≤ (gI z_269 36).toInt ∧ (gI z_269 36).toInt ≤ 300 := tz_269.1 36
                have q_304 := ((o_302.fi 36 (by decide))).trans (show (gI z_254 36).toInt = (0 : Int32).toInt by rw [ez_254]; rfl)
                have q_305 : (0 : Int32).toInt = (0) := (show (0 : Int32).toInt = 0 by decide)
                exact hk r_268 z_269 tz_269 oz_269 (by omega)
            · skip
              have i_306 := i_eq rfl (show (0 : Int32).toInt = 0 by decide) c_250
              refine ⟨fun c_251 => ?_, fun c_251 => ?_⟩
              · skip
                have i_307 := i_eq rfl (show (0 : Int32).toInt = 0 by decide) c_251
                refine hK_10 z28 ?_
                intro z_308 ez_308
                have tz_308 : TM z_308 := by rw [ez_308]; exact Ty_wI tz28 (show 0 ≤ (0 : Int32).toInt ∧ (0 : Int32).toInt ≤ 300 from by rw [(show (0 : Int32).toInt = 0 by decide)]; omega)
                have oz_308 : Same [0, 1, 22, 34, 36, 37, 38, 39, 41, 42] [14, 15, 16, 17, 24] z z_308 := ocz28.i (by decide) ez_308
                refine ⟨fun c_309 => ?_, fun c_309 => ?_⟩
                · skip
                  have f_324 : 0 ≤ (gI z_308 42).toInt ∧ (gI z_308 42).toInt ≤ 1 := tz_308.1 42
                  have q_325 := (show (gI z_308 42).toInt = (gI z28 42).toInt by rw [ez_308]; rfl)
                  have i_326 := i_eq rfl (show (0 : Int32).toInt = 0 by decide) c_309
                  intro z_310 ez_310
                  have f_327 : 0 ≤ (gI z_308 34).toInt ∧ (gI z_308 34).toInt ≤ 20 := tz_308.1 34
                  have q_328 := (show (gI z_308 34).toInt = (gI z28 34).toInt by rw [ez_308]; rfl)
                  have tz_310 : TM z_310 := by rw [ez_310]; exact Ty_wI tz_308 (show 0 ≤ (gI z_308 34).toInt ∧ (gI z_308 34).toInt ≤ 20 from by omega)
                  have oz_310 : Same [0, 1, 22, 34, 36, 37, 38, 39, 41, 42] [14, 15, 16, 17, 24] z z_310 := oz_308.i (by decide) ez_310
                  intro K_311 hK_329
                  have L_330 : ∀ (n : Nat) (v_312 : Int32) (z_313 : St), TM z_313 → Same [0, 1, 22, 34, 36, 37, 38, 39, 41, 42] [14, 15, 16, 17, 24] z z_313 → (0 ≤ v_312.toInt) → (v_312.toInt ≤ 20) → ((gI z_313 36).toInt = 0) → (20 - v_312.toInt).toNat < n → K_311 v_312 z_313 := by
                    intro n
                    induction n with
                    | zero => intro v_312 z_313 tz_313 ocz_313 w_331 w_332 w_333 m_335; omega
                    | succ n ih_334 =>
                      intro v_312 z_313 tz_313 ocz_313 w_331 w_332 w_333 m_335
                      have f_336 : 0 ≤ (gI z_313 36).toInt ∧ (gI z_313 36).toInt ≤ 300 := tz_313.1 36
                      refine hK_329 v_312 z_313 ?_
                      refine ⟨fun c_314 => ?_, fun c_314 => ?_⟩
                      · skip
                        have f_337 : 0 ≤ (gI z_313 22).toInt ∧ (gI z_313 22).toInt ≤ 20 := tz_313.1 22
                        have i_338 := i_le rfl rfl c_314
                        refine s_X9_told (gI z_313 22) z_313 _ tz_313  (fun r_315 z_316 tz_316 o_340 hp_339 => ?_)
                        have oz_316 : Same [0, 1, 22, 34, 36, 37, 38, 39, 41, 42] [14, 15, 16, 17, 24] z z_316 := ocz_313.tr o_340 (by decide) (by decide)
                        have f_341 : 0 ≤ (gI z_316 36).toInt ∧ (gI z_316 36).toInt ≤ 300 := tz_316.1 36
                        have q_342 := (o_340.fi 36 (by decide))
                        exact hk r_315 z_316 tz_316 oz_316 (by omega)
                      · skip
                        have f_343 : 0 ≤ (gI z_313 22).toInt ∧ (gI z_313 22).toInt ≤ 20 := tz_313.1 22
                        have i_344 := i_nle rfl rfl c_314
                        refine ⟨vin (a_mul (show (4 : Int32).toInt = 4 by decide) rfl (by omega) (by omega)) (by omega) (by omega), ?_⟩
                        refine ⟨vin rfl (by omega) (by omega), ?_⟩
                        intro z_317 ez_317
                        have tz_317 : TM z_317 := by rw [ez_317]; exact Ty_wR tz_313 trivial
                        have oz_317 : Same [0, 1, 22, 34, 36, 37, 38, 39, 41, 42] [14, 15, 16, 17, 24] z z_317 := ocz_313.r (by decide) ez_317
                        refine ⟨vin (a_add (a_mul (show (4 : Int32).toInt = 4 by decide) rfl (by omega) (by omega)) (show (1 : Int32).toInt = 1 by decide) (by omega) (by omega)) (by omega) (by omega), ?_⟩
                        refine ⟨vin rfl (by omega) (by omega), ?_⟩
                        intro z_318 ez_318
                        have tz_318 : TM z_318 := by rw [ez_318]; exact Ty_wR tz_317 trivial
                        have oz_318 : Same [0, 1, 22, 34, 36, 37, 38, 39, 41, 42] [14, 15, 16, 17, 24] z z_318 := oz_317.r (by decide) ez_318
                        refine ⟨vin (a_add (a_mul (show (4 : Int32).toInt = 4 by decide) rfl (by omega) (by omega)) (show (2 : Int32).toInt = 2 by decide) (by omega) (by omega)) (by omega) (by omega), ?_⟩
                        refine ⟨vin rfl (by omega) (by omega), ?_⟩
                        intro z_319 ez_319
                        have tz_319 : TM z_319 := by rw [ez_319]; exact Ty_wR tz_318 trivial
                        have oz_319 : Same [0, 1, 22, 34, 36, 37, 38, 39, 41, 42] [14, 15, 16, 17, 24] z z_319 := oz_318.r (by decide) ez_319
                        refine ⟨vin (a_add (a_mul (show (4 : Int32).toInt = 4 by decide) rfl (by omega) (by omega)) (show (3 : Int32).toInt = 3 by decide) (by omega) (by omega)) (by omega) (by omega), ?_⟩
                        refine ⟨vin rfl (by omega) (by omega), ?_⟩
                        intro z_320 ez_320
                        have tz_320 : TM z_320 := by rw [ez_320]; exact Ty_wR tz_319 trivial
                        have oz_320 : Same [0, 1, 22, 34, 36, 37, 38, 39, 41, 42] [14, 15, 16, 17, 24] z z_320 := oz_319.r (by decide) ez_320
                        intro y_321 ey_321
                        have iy_321 : y_321.toInt = (v_312.toInt + (1)) := by rw [ey_321]; exact (a_add rfl (show (1 : Int32).toInt = 1 by decide) (by omega) (by omega))
                        have f_345 : 0 ≤ (gI z_320 36).toInt ∧ (gI z_320 36).toInt ≤ 300 := tz_320.1 36
                        have q_346 := ((((show (gI z_320 36).toInt = (gI z_319 36).toInt by rw [ez_320]; rfl)).trans (show (gI z_319 36).toInt = (gI z_318 36).toInt by rw [ez_319]; rfl)).trans (show (gI z_318 36).toInt = (gI z_317 36).toInt by rw [ez_318]; rfl)).trans (show (gI z_317 36).toInt = (gI z_313 36).toInt by rw [ez_317]; rfl)
                        exact ih_334 y_321 z_320 tz_320 oz_320 (by omega) (by omega) (by omega) (by omega)
                  have g_347 : (0 : Int32).toInt = 0 := by decide
                  have f_348 : 0 ≤ (gI z_310 36).toInt ∧ (gI z_310 36).toInt ≤ 300 := tz_310.1 36
                  have q_349 := ((show (gI z_310 36).toInt = (gI z_308 36).toInt by rw [ez_310]; rfl)).trans (show (gI z_308 36).toInt = (0 : Int32).toInt by rw [ez_308]; rfl)
                  have q_350 : (0 : Int32).toInt = (0) := (show (0 : Int32).toInt = 0 by decide)
                  exact L_330 ((20 - (0 : Int32).toInt).toNat + 1) ((0 : Int32)) z_310 tz_310 oz_310 (by omega) (by omega) (by omega) (by omega)
                · skip
                  have f_351 : 0 ≤ (gI z_308 42).toInt ∧ (gI z_308 42).toInt ≤ 1 := tz_308.1 42
                  have q_352 := (show (gI z_308 42).toInt = (gI z28 42).toInt by rw [ez_308]; rfl)
                  have i_353 := i_ne rfl (show (0 : Int32).toInt = 0 by decide) c_309
                  have g_354 : (-6 : Int32).toInt = -6 := by decide
                  refine s_X9_told ((-6 : Int32)) z_308 _ tz_308  (fun r_322 z_323 tz_323 o_356 hp_355 => ?_)
                  have oz_323 : Same [0, 1, 22, 34, 36, 37, 38, 39, 41, 42] [14, 15, 16, 17, 24] z z_323 := oz_308.tr o_356 (by decide) (by decide)
                  have f_357 : 0 ≤ (gI z_323 36).toInt ∧ (gI z_323 36).toInt ≤ 300 := tz_323.1 36
                  have q_358 := ((o_356.fi 36 (by decide))).trans (show (gI z_308 36).toInt = (0 : Int32).toInt by rw [ez_308]; rfl)
                  have q_359 : (0 : Int32).toInt = (0) := (show (0 : Int32).toInt = 0 by decide)
                  exact hk r_322 z_323 tz_323 oz_323 (by omega)
              · skip
                have i_360 := i_ne rfl (show (0 : Int32).toInt = 0 by decide) c_251
                have g_361 : (0 : Int32).toInt = 0 := by decide
                refine s_X9_must ((0 : Int32)) z28 _ tz28 (by omega) (fun z_252 tz_252 o_363 hp_362 => ?_)
                have oz_252 : Same [0, 1, 22, 34, 36, 37, 38, 39, 41, 42] [14, 15, 16, 17, 24] z z_252 := ocz28.tr o_363 (by decide) (by decide)
                have f_364 : 0 ≤ (gI z_252 38).toInt ∧ (gI z_252 38).toInt ≤ 300 := tz_252.1 38
                have f_365 : 0 ≤ (gI z_252 42).toInt ∧ (gI z_252 42).toInt ≤ 1 := tz_252.1 42
                refine hK_10 z_252 ?_
                intro z_366 ez_366
                have tz_366 : TM z_366 := by rw [ez_366]; exact Ty_wI tz_252 (show 0 ≤ (0 : Int32).toInt ∧ (0 : Int32).toInt ≤ 300 from by rw [(show (0 : Int32).toInt = 0 by decide)]; omega)
                have oz_366 : Same [0, 1, 22, 34, 36, 37, 38, 39, 41, 42] [14, 15, 16, 17, 24] z z_366 := oz_252.i (by decide) ez_366
                refine ⟨fun c_367 => ?_, fun c_367 => ?_⟩
                · skip
                  have f_382 : 0 ≤ (gI z_366 42).toInt ∧ (gI z_366 42).toInt ≤ 1 := tz_366.1 42
                  have q_383 := (show (gI z_366 42).toInt = (gI z_252 42).toInt by rw [ez_366]; rfl)
                  have i_384 := i_eq rfl (show (0 : Int32).toInt = 0 by decide) c_367
                  intro z_368 ez_368
                  have f_385 : 0 ≤ (gI z_366 34).toInt ∧ (gI z_366 34).toInt ≤ 20 := tz_366.1 34
                  have q_386 := ((show (gI z_366 34).toInt = (gI z_252 34).toInt by rw [ez_366]; rfl)).trans (o_363.fi 34 (by decide))
                  have tz_368 : TM z_368 := by rw [ez_368]; exact Ty_wI tz_366 (show 0 ≤ (gI z_366 34).toInt ∧ (gI z_366 34).toInt ≤ 20 from by omega)
                  have oz_368 : Same [0, 1, 22, 34, 36, 37, 38, 39, 41, 42] [14, 15, 16, 17, 24] z z_368 := oz_366.i (by decide) ez_368
                  intro K_369 hK_387
                  have L_388 : ∀ (n : Nat) (v_370 : Int32) (z_371 : St), TM z_371 → Same [0, 1, 22, 34, 36, 37, 38, 39, 41, 42] [14, 15, 16, 17, 24] z z_371 → (0 ≤ v_370.toInt) → (v_370.toInt ≤ 20) → ((gI z_371 36).toInt = 0) → (20 - v_370.toInt).toNat < n → K_369 v_370 z_371 := by
                    intro n
                    induction n with
                    | zero => intro v_370 z_371 tz_371 ocz_371 w_389 w_390 w_391 m_393; omega
                    | succ n ih_392 =>
                      intro v_370 z_371 tz_371 ocz_371 w_389 w_390 w_391 m_393
                      have f_394 : 0 ≤ (gI z_371 36).toInt ∧ (gI z_371 36).toInt ≤ 300 := tz_371.1 36
                      refine hK_387 v_370 z_371 ?_
                      refine ⟨fun c_372 => ?_, fun c_372 => ?_⟩
                      · skip
                        have f_395 : 0 ≤ (gI z_371 22).toInt ∧ (gI z_371 22).toInt ≤ 20 := tz_371.1 22
                        have i_396 := i_le rfl rfl c_372
                        refine s_X9_told (gI z_371 22) z_371 _ tz_371  (fun r_373 z_374 tz_374 o_398 hp_397 => ?_)
                        have oz_374 : Same [0, 1, 22, 34, 36, 37, 38, 39, 41, 42] [14, 15, 16, 17, 24] z z_374 := ocz_371.tr o_398 (by decide) (by decide)
                        have f_399 : 0 ≤ (gI z_374 36).toInt ∧ (gI z_374 36).toInt ≤ 300 := tz_374.1 36
                        have q_400 := (o_398.fi 36 (by decide))
                        exact hk r_373 z_374 tz_374 oz_374 (by omega)
                      · skip
                        have f_401 : 0 ≤ (gI z_371 22).toInt ∧ (gI z_371 22).toInt ≤ 20 := tz_371.1 22
                        have i_402 := i_nle rfl rfl c_372
                        refine ⟨vin (a_mul (show (4 : Int32).toInt = 4 by decide) rfl (by omega) (by omega)) (by omega) (by omega), ?_⟩
                        refine ⟨vin rfl (by omega) (by omega), ?_⟩
                        intro z_375 ez_375
                        have tz_375 : TM z_375 := by rw [ez_375]; exact Ty_wR tz_371 trivial
                        have oz_375 : Same [0, 1, 22, 34, 36, 37, 38, 39, 41, 42] [14, 15, 16, 17, 24] z z_375 := ocz_371.r (by decide) ez_375
                        refine ⟨vin (a_add (a_mul (show (4 : Int32).toInt = 4 by decide) rfl (by omega) (by omega)) (show (1 : Int32).toInt = 1 by decide) (by omega) (by omega)) (by omega) (by omega), ?_⟩
                        refine ⟨vin rfl (by omega) (by omega), ?_⟩
                        intro z_376 ez_376
                        have tz_376 : TM z_376 := by rw [ez_376]; exact Ty_wR tz_375 trivial
                        have oz_376 : Same [0, 1, 22, 34, 36, 37, 38, 39, 41, 42] [14, 15, 16, 17, 24] z z_376 := oz_375.r (by decide) ez_376
                        refine ⟨vin (a_add (a_mul (show (4 : Int32).toInt = 4 by decide) rfl (by omega) (by omega)) (show (2 : Int32).toInt = 2 by decide) (by omega) (by omega)) (by omega) (by omega), ?_⟩
                        refine ⟨vin rfl (by omega) (by omega), ?_⟩
                        intro z_377 ez_377
                        have tz_377 : TM z_377 := by rw [ez_377]; exact Ty_wR tz_376 trivial
                        have oz_377 : Same [0, 1, 22, 34, 36, 37, 38, 39, 41, 42] [14, 15, 16, 17, 24] z z_377 := oz_376.r (by decide) ez_377
                        refine ⟨vin (a_add (a_mul (show (4 : Int32).toInt = 4 by decide) rfl (by omega) (by omega)) (show (3 : Int32).toInt = 3 by decide) (by omega) (by omega)) (by omega) (by omega), ?_⟩
                        refine ⟨vin rfl (by omega) (by omega), ?_⟩
                        intro z_378 ez_378
                        have tz_378 : TM z_378 := by rw [ez_378]; exact Ty_wR tz_377 trivial
                        have oz_378 : Same [0, 1, 22, 34, 36, 37, 38, 39, 41, 42] [14, 15, 16, 17, 24] z z_378 := oz_377.r (by decide) ez_378
                        intro y_379 ey_379
                        have iy_379 : y_379.toInt = (v_370.toInt + (1)) := by rw [ey_379]; exact (a_add rfl (show (1 : Int32).toInt = 1 by decide) (by omega) (by omega))
                        have f_403 : 0 ≤ (gI z_378 36).toInt ∧ (gI z_378 36).toInt ≤ 300 := tz_378.1 36
                        have q_404 := ((((show (gI z_378 36).toInt = (gI z_377 36).toInt by rw [ez_378]; rfl)).trans (show (gI z_377 36).toInt = (gI z_376 36).toInt by rw [ez_377]; rfl)).trans (show (gI z_376 36).toInt = (gI z_375 36).toInt by rw [ez_376]; rfl)).trans (show (gI z_375 36).toInt = (gI z_371 36).toInt by rw [ez_375]; rfl)
                        exact ih_392 y_379 z_378 tz_378 oz_378 (by omega) (by omega) (by omega) (by omega)
                  have g_405 : (0 : Int32).toInt = 0 := by decide
                  have f_406 : 0 ≤ (gI z_368 36).toInt ∧ (gI z_368 36).toInt ≤ 300 := tz_368.1 36
                  have q_407 := ((show (gI z_368 36).toInt = (gI z_366 36).toInt by rw [ez_368]; rfl)).trans (show (gI z_366 36).toInt = (0 : Int32).toInt by rw [ez_366]; rfl)
                  have q_408 : (0 : Int32).toInt = (0) := (show (0 : Int32).toInt = 0 by decide)
                  exact L_388 ((20 - (0 : Int32).toInt).toNat + 1) ((0 : Int32)) z_368 tz_368 oz_368 (by omega) (by omega) (by omega) (by omega)
                · skip
                  have f_409 : 0 ≤ (gI z_366 42).toInt ∧ (gI z_366 42).toInt ≤ 1 := tz_366.1 42
                  have q_410 := (show (gI z_366 42).toInt = (gI z_252 42).toInt by rw [ez_366]; rfl)
                  have i_411 := i_ne rfl (show (0 : Int32).toInt = 0 by decide) c_367
                  have g_412 : (-6 : Int32).toInt = -6 := by decide
                  refine s_X9_told ((-6 : Int32)) z_366 _ tz_366  (fun r_380 z_381 tz_381 o_414 hp_413 => ?_)
                  have oz_381 : Same [0, 1, 22, 34, 36, 37, 38, 39, 41, 42] [14, 15, 16, 17, 24] z z_381 := oz_366.tr o_414 (by decide) (by decide)
                  have f_415 : 0 ≤ (gI z_381 36).toInt ∧ (gI z_381 36).toInt ≤ 300 := tz_381.1 36
                  have q_416 := ((o_414.fi 36 (by decide))).trans (show (gI z_366 36).toInt = (0 : Int32).toInt by rw [ez_366]; rfl)
                  have q_417 : (0 : Int32).toInt = (0) := (show (0 : Int32).toInt = 0 by decide)
                  exact hk r_380 z_381 tz_381 oz_381 (by omega)
          · skip
            have i_418 := i_eq rfl (show (3 : Int32).toInt = 3 by decide) c35
            refine ⟨fun c36 => ?_, fun c36 => ?_⟩
            · skip
              refine hK_78  ?_
              refine ⟨fun c_419 => ?_, fun c_419 => ?_⟩
              · skip
                have i_422 := i_ne rfl (show (0 : Int32).toInt = 0 by decide) c_419
                refine hK_10 z28 ?_
                intro z_423 ez_423
                have tz_423 : TM z_423 := by rw [ez_423]; exact Ty_wI tz28 (show 0 ≤ (0 : Int32).toInt ∧ (0 : Int32).toInt ≤ 300 from by rw [(show (0 : Int32).toInt = 0 by decide)]; omega)
                have oz_423 : Same [0, 1, 22, 34, 36, 37, 38, 39, 41, 42] [14, 15, 16, 17, 24] z z_423 := ocz28.i (by decide) ez_423
                refine ⟨fun c_424 => ?_, fun c_424 => ?_⟩
                · skip
                  have f_439 : 0 ≤ (gI z_423 42).toInt ∧ (gI z_423 42).toInt ≤ 1 := tz_423.1 42
                  have q_440 := (show (gI z_423 42).toInt = (gI z28 42).toInt by rw [ez_423]; rfl)
                  have i_441 := i_eq rfl (show (0 : Int32).toInt = 0 by decide) c_424
                  intro z_425 ez_425
                  have f_442 : 0 ≤ (gI z_423 34).toInt ∧ (gI z_423 34).toInt ≤ 20 := tz_423.1 34
                  have q_443 := (show (gI z_423 34).toInt = (gI z28 34).toInt by rw [ez_423]; rfl)
                  have tz_425 : TM z_425 := by rw [ez_425]; exact Ty_wI tz_423 (show 0 ≤ (gI z_423 34).toInt ∧ (gI z_423 34).toInt ≤ 20 from by omega)
                  have oz_425 : Same [0, 1, 22, 34, 36, 37, 38, 39, 41, 42] [14, 15, 16, 17, 24] z z_425 := oz_423.i (by decide) ez_425
                  intro K_426 hK_444
                  have L_445 : ∀ (n : Nat) (v_427 : Int32) (z_428 : St), TM z_428 → Same [0, 1, 22, 34, 36, 37, 38, 39, 41, 42] [14, 15, 16, 17, 24] z z_428 → (0 ≤ v_427.toInt) → (v_427.toInt ≤ 20) → ((gI z_428 36).toInt = 0) → (20 - v_427.toInt).toNat < n → K_426 v_427 z_428 := by
                    intro n
                    induction n with
                    | zero => intro v_427 z_428 tz_428 ocz_428 w_446 w_447 w_448 m_450; omega
                    | succ n ih_449 =>
                      intro v_427 z_428 tz_428 ocz_428 w_446 w_447 w_448 m_450
                      have f_451 : 0 ≤ (gI z_428 36).toInt ∧ (gI z_428 36).toInt ≤ 300 := tz_428.1 36
                      refine hK_444 v_427 z_428 ?_
                      refine ⟨fun c_429 => ?_, fun c_429 => ?_⟩
                      · skip
                        have f_452 : 0 ≤ (gI z_428 22).toInt ∧ (gI z_428 22).toInt ≤ 20 := tz_428.1 22
                        have i_453 := i_le rfl rfl c_429
                        refine s_X9_told (gI z_428 22) z_428 _ tz_428  (fun r_430 z_431 tz_431 o_455 hp_454 => ?_)
                        have oz_431 : Same [0, 1, 22, 34, 36, 37, 38, 39, 41, 42] [14, 15, 16, 17, 24] z z_431 := ocz_428.tr o_455 (by decide) (by decide)
                        have f_456 : 0 ≤ (gI z_431 36).toInt ∧ (gI z_431 36).toInt ≤ 300 := tz_431.1 36
                        have q_457 := (o_455.fi 36 (by decide))
                        exact hk r_430 z_431 tz_431 oz_431 (by omega)
                      · skip
                        have f_458 : 0 ≤ (gI z_428 22).toInt ∧ (gI z_428 22).toInt ≤ 20 := tz_428.1 22
                        have i_459 := i_nle rfl rfl c_429
                        refine ⟨vin (a_mul (show (4 : Int32).toInt = 4 by decide) rfl (by omega) (by omega)) (by omega) (by omega), ?_⟩
                        refine ⟨vin rfl (by omega) (by omega), ?_⟩
                        intro z_432 ez_432
                        have tz_432 : TM z_432 := by rw [ez_432]; exact Ty_wR tz_428 trivial
                        have oz_432 : Same [0, 1, 22, 34, 36, 37, 38, 39, 41, 42] [14, 15, 16, 17, 24] z z_432 := ocz_428.r (by decide) ez_432
                        refine ⟨vin (a_add (a_mul (show (4 : Int32).toInt = 4 by decide) rfl (by omega) (by omega)) (show (1 : Int32).toInt = 1 by decide) (by omega) (by omega)) (by omega) (by omega), ?_⟩
                        refine ⟨vin rfl (by omega) (by omega), ?_⟩
                        intro z_433 ez_433
                        have tz_433 : TM z_433 := by rw [ez_433]; exact Ty_wR tz_432 trivial
                        have oz_433 : Same [0, 1, 22, 34, 36, 37, 38, 39, 41, 42] [14, 15, 16, 17, 24] z z_433 := oz_432.r (by decide) ez_433
                        refine ⟨vin (a_add (a_mul (show (4 : Int32).toInt = 4 by decide) rfl (by omega) (by omega)) (show (2 : Int32).toInt = 2 by decide) (by omega) (by omega)) (by omega) (by omega), ?_⟩
                        refine ⟨vin rfl (by omega) (by omega), ?_⟩
                        intro z_434 ez_434
                        have tz_434 : TM z_434 := by rw [ez_434]; exact Ty_wR tz_433 trivial
                        have oz_434 : Same [0, 1, 22, 34, 36, 37, 38, 39, 41, 42] [14, 15, 16, 17, 24] z z_434 := oz_433.r (by decide) ez_434
                        refine ⟨vin (a_add (a_mul (show (4 : Int32).toInt = 4 by decide) rfl (by omega) (by omega)) (show (3 : Int32).toInt = 3 by decide) (by omega) (by omega)) (by omega) (by omega), ?_⟩
                        refine ⟨vin rfl (by omega) (by omega), ?_⟩
                        intro z_435 ez_435
                        have tz_435 : TM z_435 := by rw [ez_435]; exact Ty_wR tz_434 trivial
                        have oz_435 : Same [0, 1, 22, 34, 36, 37, 38, 39, 41, 42] [14, 15, 16, 17, 24] z z_435 := oz_434.r (by decide) ez_435
                        intro y_436 ey_436
                        have iy_436 : y_436.toInt = (v_427.toInt + (1)) := by rw [ey_436]; exact (a_add rfl (show (1 : Int32).toInt = 1 by decide) (by omega) (by omega))
                        have f_460 : 0 ≤ (gI z_435 36).toInt ∧ (gI z_435 36).toInt ≤ 300 := tz_435.1 36
                        have q_461 := ((((show (gI z_435 36).toInt = (gI z_434 36).toInt by rw [ez_435]; rfl)).trans (show (gI z_434 36).toInt = (gI z_433 36).toInt by rw [ez_434]; rfl)).trans (show (gI z_433 36).toInt = (gI z_432 36).toInt by rw [ez_433]; rfl)).trans (show (gI z_432 36).toInt = (gI z_428 36).toInt by rw [ez_432]; rfl)
                        exact ih_449 y_436 z_435 tz_435 oz_435 (by omega) (by omega) (by omega) (by omega)
                  have g_462 : (0 : Int32).toInt = 0 := by decide
                  have f_463 : 0 ≤ (gI z_425 36).toInt ∧ (gI z_425 36).toInt ≤ 300 := tz_425.1 36
                  have q_464 := ((show (gI z_425 36).toInt = (gI z_423 36).toInt by rw [ez_425]; rfl)).trans (show (gI z_423 36).toInt = (0 : Int32).toInt by rw [ez_423]; rfl)
                  have q_465 : (0 : Int32).toInt = (0) := (show (0 : Int32).toInt = 0 by decide)
                  exact L_445 ((20 - (0 : Int32).toInt).toNat + 1) ((0 : Int32)) z_425 tz_425 oz_425 (by omega) (by omega) (by omega) (by omega)
                · skip
                  have f_466 : 0 ≤ (gI z_423 42).toInt ∧ (gI z_423 42).toInt ≤ 1 := tz_423.1 42
                  have q_467 := (show (gI z_423 42).toInt = (gI z28 42).toInt by rw [ez_423]; rfl)
                  have i_468 := i_ne rfl (show (0 : Int32).toInt = 0 by decide) c_424
                  have g_469 : (-6 : Int32).toInt = -6 := by decide
                  refine s_X9_told ((-6 : Int32)) z_423 _ tz_423  (fun r_437 z_438 tz_438 o_471 hp_470 => ?_)
                  have oz_438 : Same [0, 1, 22, 34, 36, 37, 38, 39, 41, 42] [14, 15, 16, 17, 24] z z_438 := oz_423.tr o_471 (by decide) (by decide)
                  have f_472 : 0 ≤ (gI z_438 36).toInt ∧ (gI z_438 36).toInt ≤ 300 := tz_438.1 36
                  have q_473 := ((o_471.fi 36 (by decide))).trans (show (gI z_423 36).toInt = (0 : Int32).toInt by rw [ez_423]; rfl)
                  have q_474 : (0 : Int32).toInt = (0) := (show (0 : Int32).toInt = 0 by decide)
                  exact hk r_437 z_438 tz_438 oz_438 (by omega)
              · skip
                have i_475 := i_eq rfl (show (0 : Int32).toInt = 0 by decide) c_419
                refine ⟨fun c_420 => ?_, fun c_420 => ?_⟩
                · skip
                  have i_476 := i_eq rfl (show (0 : Int32).toInt = 0 by decide) c_420
                  refine hK_10 z28 ?_
                  intro z_477 ez_477
                  have tz_477 : TM z_477 := by rw [ez_477]; exact Ty_wI tz28 (show 0 ≤ (0 : Int32).toInt ∧ (0 : Int32).toInt ≤ 300 from by rw [(show (0 : Int32).toInt = 0 by decide)]; omega)
                  have oz_477 : Same [0, 1, 22, 34, 36, 37, 38, 39, 41, 42] [14, 15, 16, 17, 24] z z_477 := ocz28.i (by decide) ez_477
                  refine ⟨fun c_478 => ?_, fun c_478 => ?_⟩
                  · skip
                    have f_493 : 0 ≤ (gI z_477 42).toInt ∧ (gI z_477 42).toInt ≤ 1 := tz_477.1 42
                    have q_494 := (show (gI z_477 42).toInt = (gI z28 42).toInt by rw [ez_477]; rfl)
                    have i_495 := i_eq rfl (show (0 : Int32).toInt = 0 by decide) c_478
                    intro z_479 ez_479
                    have f_496 : 0 ≤ (gI z_477 34).toInt ∧ (gI z_477 34).toInt ≤ 20 := tz_477.1 34
                    have q_497 := (show (gI z_477 34).toInt = (gI z28 34).toInt by rw [ez_477]; rfl)
                    have tz_479 : TM z_479 := by rw [ez_479]; exact Ty_wI tz_477 (show 0 ≤ (gI z_477 34).toInt ∧ (gI z_477 34).toInt ≤ 20 from by omega)
                    have oz_479 : Same [0, 1, 22, 34, 36, 37, 38, 39, 41, 42] [14, 15, 16, 17, 24] z z_479 := oz_477.i (by decide) ez_479
                    intro K_480 hK_498
                    have L_499 : ∀ (n : Nat) (v_481 : Int32) (z_482 : St), TM z_482 → Same [0, 1, 22, 34, 36, 37, 38, 39, 41, 42] [14, 15, 16, 17, 24] z z_482 → (0 ≤ v_481.toInt) → (v_481.toInt ≤ 20) → ((gI z_482 36).toInt = 0) → (20 - v_481.toInt).toNat < n → K_480 v_481 z_482 := by
                      intro n
                      induction n with
                      | zero => intro v_481 z_482 tz_482 ocz_482 w_500 w_501 w_502 m_504; omega
                      | succ n ih_503 =>
                        intro v_481 z_482 tz_482 ocz_482 w_500 w_501 w_502 m_504
                        have f_505 : 0 ≤ (gI z_482 36).toInt ∧ (gI z_482 36).toInt ≤ 300 := tz_482.1 36
                        refine hK_498 v_481 z_482 ?_
                        refine ⟨fun c_483 => ?_, fun c_483 => ?_⟩
                        · skip
                          have f_506 : 0 ≤ (gI z_482 22).toInt ∧ (gI z_482 22).toInt ≤ 20 := tz_482.1 22
                          have i_507 := i_le rfl rfl c_483
                          refine s_X9_told (gI z_482 22) z_482 _ tz_482  (fun r_484 z_485 tz_485 o_509 hp_508 => ?_)
                          have oz_485 : Same [0, 1, 22, 34, 36, 37, 38, 39, 41, 42] [14, 15, 16, 17, 24] z z_485 := ocz_482.tr o_509 (by decide) (by decide)
                          have f_510 : 0 ≤ (gI z_485 36).toInt ∧ (gI z_485 36).toInt ≤ 300 := tz_485.1 36
                          have q_511 := (o_509.fi 36 (by decide))
                          exact hk r_484 z_485 tz_485 oz_485 (by omega)
                        · skip
                          have f_512 : 0 ≤ (gI z_482 22).toInt ∧ (gI z_482 22).toInt ≤ 20 := tz_482.1 22
                          have i_513 := i_nle rfl rfl c_483
                          refine ⟨vin (a_mul (show (4 : Int32).toInt = 4 by decide) rfl (by omega) (by omega)) (by omega) (by omega), ?_⟩
                          refine ⟨vin rfl (by omega) (by omega), ?_⟩
                          intro z_486 ez_486
                          have tz_486 : TM z_486 := by rw [ez_486]; exact Ty_wR tz_482 trivial
                          have oz_486 : Same [0, 1, 22, 34, 36, 37, 38, 39, 41, 42] [14, 15, 16, 17, 24] z z_486 := ocz_482.r (by decide) ez_486
                          refine ⟨vin (a_add (a_mul (show (4 : Int32).toInt = 4 by decide) rfl (by omega) (by omega)) (show (1 : Int32).toInt = 1 by decide) (by omega) (by omega)) (by omega) (by omega), ?_⟩
                          refine ⟨vin rfl (by omega) (by omega), ?_⟩
                          intro z_487 ez_487
                          have tz_487 : TM z_487 := by rw [ez_487]; exact Ty_wR tz_486 trivial
                          have oz_487 : Same [0, 1, 22, 34, 36, 37, 38, 39, 41, 42] [14, 15, 16, 17, 24] z z_487 := oz_486.r (by decide) ez_487
                          refine ⟨vin (a_add (a_mul (show (4 : Int32).toInt = 4 by decide) rfl (by omega) (by omega)) (show (2 : Int32).toInt = 2 by decide) (by omega) (by omega)) (by omega) (by omega), ?_⟩
                          refine ⟨vin rfl (by omega) (by omega), ?_⟩
                          intro z_488 ez_488
                          have tz_488 : TM z_488 := by rw [ez_488]; exact Ty_wR tz_487 trivial
                          have oz_488 : Same [0, 1, 22, 34, 36, 37, 38, 39, 41, 42] [14, 15, 16, 17, 24] z z_488 := oz_487.r (by decide) ez_488
                          refine ⟨vin (a_add (a_mul (show (4 : Int32).toInt = 4 by decide) rfl (by omega) (by omega)) (show (3 : Int32).toInt = 3 by decide) (by omega) (by omega)) (by omega) (by omega), ?_⟩
                          refine ⟨vin rfl (by omega) (by omega), ?_⟩
                          intro z_489 ez_489
                          have tz_489 : TM z_489 := by rw [ez_489]; exact Ty_wR tz_488 trivial
                          have oz_489 : Same [0, 1, 22, 34, 36, 37, 38, 39, 41, 42] [14, 15, 16, 17, 24] z z_489 := oz_488.r (by decide) ez_489
                          intro y_490 ey_490
                          have iy_490 : y_490.toInt = (v_481.toInt + (1)) := by rw [ey_490]; exact (a_add rfl (show (1 : Int32).toInt = 1 by decide) (by omega) (by omega))
                          have f_514 : 0 ≤ (gI z_489 36).toInt ∧ (gI z_489 36).toInt ≤ 300 := tz_489.1 36
                          have q_515 := ((((show (gI z_489 36).toInt = (gI z_488 36).toInt by rw [ez_489]; rfl)).trans (show (gI z_488 36).toInt = (gI z_487 36).toInt by rw [ez_488]; rfl)).trans (show (gI z_487 36).toInt = (gI z_486 36).toInt by rw [ez_487]; rfl)).trans (show (gI z_486 36).toInt = (gI z_482 36).toInt by rw [ez_486]; rfl)
                          exact ih_503 y_490 z_489 tz_489 oz_489 (by omega) (by omega) (by omega) (by omega)
                    have g_516 : (0 : Int32).toInt = 0 := by decide
                    have f_517 : 0 ≤ (gI z_479 36).toInt ∧ (gI z_479 36).toInt ≤ 300 := tz_479.1 36
                    have q_518 := ((show (gI z_479 36).toInt = (gI z_477 36).toInt by rw [ez_479]; rfl)).trans (show (gI z_477 36).toInt = (0 : Int32).toInt by rw [ez_477]; rfl)
                    have q_519 : (0 : Int32).toInt = (0) := (show (0 : Int32).toInt = 0 by decide)
                    exact L_499 ((20 - (0 : Int32).toInt).toNat + 1) ((0 : Int32)) z_479 tz_479 oz_479 (by omega) (by omega) (by omega) (by omega)
                  · skip
                    have f_520 : 0 ≤ (gI z_477 42).toInt ∧ (gI z_477 42).toInt ≤ 1 := tz_477.1 42
                    have q_521 := (show (gI z_477 42).toInt = (gI z28 42).toInt by rw [ez_477]; rfl)
                    have i_522 := i_ne rfl (show (0 : Int32).toInt = 0 by decide) c_478
                    have g_523 : (-6 : Int32).toInt = -6 := by decide
                    refine s_X9_told ((-6 : Int32)) z_477 _ tz_477  (fun r_491 z_492 tz_492 o_525 hp_524 => ?_)
                    have oz_492 : Same [0, 1, 22, 34, 36, 37, 38, 39, 41, 42] [14, 15, 16, 17, 24] z z_492 := oz_477.tr o_525 (by decide) (by decide)
                    have f_526 : 0 ≤ (gI z_492 36).toInt ∧ (gI z_492 36).toInt ≤ 300 := tz_492.1 36
                    have q_527 := ((o_525.fi 36 (by decide))).trans (show (gI z_477 36).toInt = (0 : Int32).toInt by rw [ez_477]; rfl)
                    have q_528 : (0 : Int32).toInt = (0) := (show (0 : Int32).toInt = 0 by decide)
                    exact hk r_491 z_492 tz_492 oz_492 (by omega)
                · skip
                  have i_529 := i_ne rfl (show (0 : Int32).toInt = 0 by decide) c_420
                  have g_530 : (0 : Int32).toInt = 0 := by decide
                  refine s_X9_must ((0 : Int32)) z28 _ tz28 (by omega) (fun z_421 tz_421 o_532 hp_531 => ?_)
                  have oz_421 : Same [0, 1, 22, 34, 36, 37, 38, 39, 41, 42] [14, 15, 16, 17, 24] z z_421 := ocz28.tr o_532 (by decide) (by decide)
                  have f_533 : 0 ≤ (gI z_421 38).toInt ∧ (gI z_421 38).toInt ≤ 300 := tz_421.1 38
                  have f_534 : 0 ≤ (gI z_421 42).toInt ∧ (gI z_421 42).toInt ≤ 1 := tz_421.1 42
                  refine hK_10 z_421 ?_
                  intro z_535 ez_535
                  have tz_535 : TM z_535 := by rw [ez_535]; exact Ty_wI tz_421 (show 0 ≤ (0 : Int32).toInt ∧ (0 : Int32).toInt ≤ 300 from by rw [(show (0 : Int32).toInt = 0 by decide)]; omega)
                  have oz_535 : Same [0, 1, 22, 34, 36, 37, 38, 39, 41, 42] [14, 15, 16, 17, 24] z z_535 := oz_421.i (by decide) ez_535
                  refine ⟨fun c_536 => ?_, fun c_536 => ?_⟩
                  · skip
                    have f_551 : 0 ≤ (gI z_535 42).toInt ∧ (gI z_535 42).toInt ≤ 1 := tz_535.1 42
                    have q_552 := (show (gI z_535 42).toInt = (gI z_421 42).toInt by rw [ez_535]; rfl)
                    have i_553 := i_eq rfl (show (0 : Int32).toInt = 0 by decide) c_536
                    intro z_537 ez_537
                    have f_554 : 0 ≤ (gI z_535 34).toInt ∧ (gI z_535 34).toInt ≤ 20 := tz_535.1 34
                    have q_555 := ((show (gI z_535 34).toInt = (gI z_421 34).toInt by rw [ez_535]; rfl)).trans (o_532.fi 34 (by decide))
                    have tz_537 : TM z_537 := by rw [ez_537]; exact Ty_wI tz_535 (show 0 ≤ (gI z_535 34).toInt ∧ (gI z_535 34).toInt ≤ 20 from by omega)
                    have oz_537 : Same [0, 1, 22, 34, 36, 37, 38, 39, 41, 42] [14, 15, 16, 17, 24] z z_537 := oz_535.i (by decide) ez_537
                    intro K_538 hK_556
                    have L_557 : ∀ (n : Nat) (v_539 : Int32) (z_540 : St), TM z_540 → Same [0, 1, 22, 34, 36, 37, 38, 39, 41, 42] [14, 15, 16, 17, 24] z z_540 → (0 ≤ v_539.toInt) → (v_539.toInt ≤ 20) → ((gI z_540 36).toInt = 0) → (20 - v_539.toInt).toNat < n → K_538 v_539 z_540 := by
                      intro n
                      induction n with
                      | zero => intro v_539 z_540 tz_540 ocz_540 w_558 w_559 w_560 m_562; omega
                      | succ n ih_561 =>
                        intro v_539 z_540 tz_540 ocz_540 w_558 w_559 w_560 m_562
                        have f_563 : 0 ≤ (gI z_540 36).toInt ∧ (gI z_540 36).toInt ≤ 300 := tz_540.1 36
                        refine hK_556 v_539 z_540 ?_
                        refine ⟨fun c_541 => ?_, fun c_541 => ?_⟩
                        · skip
                          have f_564 : 0 ≤ (gI z_540 22).toInt ∧ (gI z_540 22).toInt ≤ 20 := tz_540.1 22
                          have i_565 := i_le rfl rfl c_541
                          refine s_X9_told (gI z_540 22) z_540 _ tz_540  (fun r_542 z_543 tz_543 o_567 hp_566 => ?_)
                          have oz_543 : Same [0, 1, 22, 34, 36, 37, 38, 39, 41, 42] [14, 15, 16, 17, 24] z z_543 := ocz_540.tr o_567 (by decide) (by decide)
                          have f_568 : 0 ≤ (gI z_543 36).toInt ∧ (gI z_543 36).toInt ≤ 300 := tz_543.1 36
                          have q_569 := (o_567.fi 36 (by decide))
                          exact hk r_542 z_543 tz_543 oz_543 (by omega)
                        · skip
                          have f_570 : 0 ≤ (gI z_540 22).toInt ∧ (gI z_540 22).toInt ≤ 20 := tz_540.1 22
                          have i_571 := i_nle rfl rfl c_541
                          refine ⟨vin (a_mul (show (4 : Int32).toInt = 4 by decide) rfl (by omega) (by omega)) (by omega) (by omega), ?_⟩
                          refine ⟨vin rfl (by omega) (by omega), ?_⟩
                          intro z_544 ez_544
                          have tz_544 : TM z_544 := by rw [ez_544]; exact Ty_wR tz_540 trivial
                          have oz_544 : Same [0, 1, 22, 34, 36, 37, 38, 39, 41, 42] [14, 15, 16, 17, 24] z z_544 := ocz_540.r (by decide) ez_544
                          refine ⟨vin (a_add (a_mul (show (4 : Int32).toInt = 4 by decide) rfl (by omega) (by omega)) (show (1 : Int32).toInt = 1 by decide) (by omega) (by omega)) (by omega) (by omega), ?_⟩
                          refine ⟨vin rfl (by omega) (by omega), ?_⟩
                          intro z_545 ez_545
                          have tz_545 : TM z_545 := by rw [ez_545]; exact Ty_wR tz_544 trivial
                          have oz_545 : Same [0, 1, 22, 34, 36, 37, 38, 39, 41, 42] [14, 15, 16, 17, 24] z z_545 := oz_544.r (by decide) ez_545
                          refine ⟨vin (a_add (a_mul (show (4 : Int32).toInt = 4 by decide) rfl (by omega) (by omega)) (show (2 : Int32).toInt = 2 by decide) (by omega) (by omega)) (by omega) (by omega), ?_⟩
                          refine ⟨vin rfl (by omega) (by omega), ?_⟩
                          intro z_546 ez_546
                          have tz_546 : TM z_546 := by rw [ez_546]; exact Ty_wR tz_545 trivial
                          have oz_546 : Same [0, 1, 22, 34, 36, 37, 38, 39, 41, 42] [14, 15, 16, 17, 24] z z_546 := oz_545.r (by decide) ez_546
                          refine ⟨vin (a_add (a_mul (show (4 : Int32).toInt = 4 by decide) rfl (by omega) (by omega)) (show (3 : Int32).toInt = 3 by decide) (by omega) (by omega)) (by omega) (by omega), ?_⟩
                          refine ⟨vin rfl (by omega) (by omega), ?_⟩
                          intro z_547 ez_547
                          have tz_547 : TM z_547 := by rw [ez_547]; exact Ty_wR tz_546 trivial
                          have oz_547 : Same [0, 1, 22, 34, 36, 37, 38, 39, 41, 42] [14, 15, 16, 17, 24] z z_547 := oz_546.r (by decide) ez_547
                          intro y_548 ey_548
                          have iy_548 : y_548.toInt = (v_539.toInt + (1)) := by rw [ey_548]; exact (a_add rfl (show (1 : Int32).toInt = 1 by decide) (by omega) (by omega))
                          have f_572 : 0 ≤ (gI z_547 36).toInt ∧ (gI z_547 36).toInt ≤ 300 := tz_547.1 36
                          have q_573 := ((((show (gI z_547 36).toInt = (gI z_546 36).toInt by rw [ez_547]; rfl)).trans (show (gI z_546 36).toInt = (gI z_545 36).toInt by rw [ez_546]; rfl)).trans (show (gI z_545 36).toInt = (gI z_544 36).toInt by rw [ez_545]; rfl)).trans (show (gI z_544 36).toInt = (gI z_540 36).toInt by rw [ez_544]; rfl)
                          exact ih_561 y_548 z_547 tz_547 oz_547 (by omega) (by omega) (by omega) (by omega)
                    have g_574 : (0 : Int32).toInt = 0 := by decide
                    have f_575 : 0 ≤ (gI z_537 36).toInt ∧ (gI z_537 36).toInt ≤ 300 := tz_537.1 36
                    have q_576 := ((show (gI z_537 36).toInt = (gI z_535 36).toInt by rw [ez_537]; rfl)).trans (show (gI z_535 36).toInt = (0 : Int32).toInt by rw [ez_535]; rfl)
                    have q_577 : (0 : Int32).toInt = (0) := (show (0 : Int32).toInt = 0 by decide)
                    exact L_557 ((20 - (0 : Int32).toInt).toNat + 1) ((0 : Int32)) z_537 tz_537 oz_537 (by omega) (by omega) (by omega) (by omega)
                  · skip
                    have f_578 : 0 ≤ (gI z_535 42).toInt ∧ (gI z_535 42).toInt ≤ 1 := tz_535.1 42
                    have q_579 := (show (gI z_535 42).toInt = (gI z_421 42).toInt by rw [ez_535]; rfl)
                    have i_580 := i_ne rfl (show (0 : Int32).toInt = 0 by decide) c_536
                    have g_581 : (-6 : Int32).toInt = -6 := by decide
                    refine s_X9_told ((-6 : Int32)) z_535 _ tz_535  (fun r_549 z_550 tz_550 o_583 hp_582 => ?_)
                    have oz_550 : Same [0, 1, 22, 34, 36, 37, 38, 39, 41, 42] [14, 15, 16, 17, 24] z z_550 := oz_535.tr o_583 (by decide) (by decide)
                    have f_584 : 0 ≤ (gI z_550 36).toInt ∧ (gI z_550 36).toInt ≤ 300 := tz_550.1 36
                    have q_585 := ((o_583.fi 36 (by decide))).trans (show (gI z_535 36).toInt = (0 : Int32).toInt by rw [ez_535]; rfl)
                    have q_586 : (0 : Int32).toInt = (0) := (show (0 : Int32).toInt = 0 by decide)
                    exact hk r_549 z_550 tz_550 oz_550 (by omega)
            · skip
              refine s_X9_next  z28 _ tz28 (by omega) (fun z37 tz37 o_588 hp_587 => ?_)
              have oz37 : Same [0, 1, 22, 34, 36, 37, 38, 39, 41, 42] [14, 15, 16, 17, 24] z z37 := ocz28.tr o_588 (by decide) (by decide)
              have f_589 : 0 ≤ (gI z37 38).toInt ∧ (gI z37 38).toInt ≤ 300 := tz37.1 38
              have f_590 : 0 ≤ (gI z37 36).toInt ∧ (gI z37 36).toInt ≤ 300 := tz37.1 36
              have q_591 := (o_588.fi 36 (by decide))
              refine s_X9_readRule  z37 _ tz37 (by omega) (fun z39 tz39 o_593 hp_592 => ?_)
              have oz39 : Same [0, 1, 22, 34, 36, 37, 38, 39, 41, 42] [14, 15, 16, 17, 24] z z39 := oz37.tr o_593 (by decide) (by decide)
              have f_594 : 0 ≤ (gI z39 38).toInt ∧ (gI z39 38).toInt ≤ 300 := tz39.1 38
              have f_595 : 0 ≤ (gI z39 42).toInt ∧ (gI z39 42).toInt ≤ 1 := tz39.1 42
              have f_596 : 0 ≤ (gI z39 34).toInt ∧ (gI z39 34).toInt ≤ 20 := tz39.1 34
              have f_597 : 0 ≤ (gI z37 34).toInt ∧ (gI z37 34).toInt ≤ 20 := tz37.1 34
              have q_598 := (o_588.fi 34 (by decide))
              have f_599 : 0 ≤ (gI z39 36).toInt ∧ (gI z39 36).toInt ≤ 300 := tz39.1 36
              have q_600 := ((o_593.fi 36 (by decide))).trans (o_588.fi 36 (by decide))
              exact ih_72  z39 tz39 oz39 (by omega) (by omega) (by omega)
    have f_601 : 0 ≤ (gI z6 36).toInt ∧ (gI z6 36).toInt ≤ 300 := tz6.1 36
    have q_602 := ((((((o_8.fi 36 (by decide))).trans (show (gI z5 36).toInt = (gI z4 36).toInt by rw [ez5]; rfl)).trans (show (gI z4 36).toInt = (gI z3 36).toInt by rw [ez4]; rfl)).trans (show (gI z3 36).toInt = (gI z2 36).toInt by rw [ez3]; rfl)).trans (show (gI z2 36).toInt = (gI z1 36).toInt by rw [ez2]; rfl)).trans (show (gI z1 36).toInt = (gI z 36).toInt by rw [ez1]; rfl)
    refine s_X9_readRule  z6 _ tz6 (by omega) (fun z41 tz41 o_604 hp_603 => ?_)
    have oz41 : Same [0, 1, 22, 34, 36, 37, 38, 39, 41, 42] [14, 15, 16, 17, 24] z z41 := oz6.tr o_604 (by decide) (by decide)
    have f_605 : 0 ≤ (gI z41 38).toInt ∧ (gI z41 38).toInt ≤ 300 := tz41.1 38
    have f_606 : 0 ≤ (gI z41 42).toInt ∧ (gI z41 42).toInt ≤ 1 := tz41.1 42
    have f_607 : 0 ≤ (gI z41 34).toInt ∧ (gI z41 34).toInt ≤ 20 := tz41.1 34
    have f_608 : 0 ≤ (gI z6 34).toInt ∧ (gI z6 34).toInt ≤ 20 := tz6.1 34
    have q_609 := ((o_8.fi 34 (by decide))).trans (show (gI z5 34).toInt = (0 : Int32).toInt by rw [ez5]; rfl)
    have q_610 : (0 : Int32).toInt = (0) := (show (0 : Int32).toInt = 0 by decide)
    have f_611 : 0 ≤ (gI z41 36).toInt ∧ (gI z41 36).toInt ≤ 300 := tz41.1 36
    have q_612 := (((((((o_604.fi 36 (by decide))).trans (o_8.fi 36 (by decide))).trans (show (gI z5 36).toInt = (gI z4 36).toInt by rw [ez5]; rfl)).trans (show (gI z4 36).toInt = (gI z3 36).toInt by rw [ez4]; rfl)).trans (show (gI z3 36).toInt = (gI z2 36).toInt by rw [ez3]; rfl)).trans (show (gI z2 36).toInt = (gI z1 36).toInt by rw [ez2]; rfl)).trans (show (gI z1 36).toInt = (gI z 36).toInt by rw [ez1]; rfl)
    exact L_69 ((22 - (gI z41 34).toInt - (gI z41 42).toInt).toNat + 1)  z41 tz41 oz41 (by omega) (by omega) (by omega)

set_option maxHeartbeats 2000000 in
theorem s_X9_fault  (z : St) (P : Int32 → St → Prop) (ht : TM z)  (hk : ∀ (r : Int32) (z2 : St), TM z2 → Same [0] [] z z2 → (True) → P r z2) : wp_X9_fault  z P := by
  unfold wp_X9_fault
  intro z1 ez1
  have tz1 : TM z1 := by rw [ez1]; exact Ty_wI ht trivial
  have oz1 : Same [0] [] z z1 := (Same.rf (z := z)).i (by decide) ez1
  have q_1 := (show (gI z1 41).toInt = (gI z 41).toInt by rw [ez1]; rfl)
  exact hk (gI z1 41) z1 tz1 oz1 trivial

set_option maxHeartbeats 2000000 in
theorem s_X9_go (b1 : Int32) (z : St) (P : Int32 → St → Prop) (ht : TM z)  (hk : ∀ (r : Int32) (z2 : St), TM z2 → Same [0, 1, 2, 21] [11] z z2 → ((1 ≤ b1.toInt ∧ b1.toInt ≤ 48 ∧ (gI z 2).toInt + b1.toInt ≤ 167 ∧ r.toInt = (gI z 2).toInt + b1.toInt ∧ (gI z2 2).toInt = (gI z 2).toInt + b1.toInt) ∨ ((b1.toInt < 1 ∨ 48 < b1.toInt ∨ 167 < (gI z 2).toInt + b1.toInt) ∧ r.toInt = -1 ∧ (gI z2 2).toInt = (gI z 2).toInt)) → P r z2) : wp_X9_go b1 z P := by
  unfold wp_X9_go
  intro z1 ez1
  have tz1 : TM z1 := by rw [ez1]; exact Ty_wI ht trivial
  have oz1 : Same [0, 1, 2, 21] [11] z z1 := (Same.rf (z := z)).i (by decide) ez1
  have g_1 : (Int32.toInt64 b1).toInt = b1.toInt := (a_wide rfl)
  have g_2 : (1 : Int64).toInt = 1 := by decide
  have g_3 : (48 : Int64).toInt = 48 := by decide
  refine s_X9_in (Int32.toInt64 b1) ((1 : Int64)) ((48 : Int64)) z1 _ tz1  (fun r3 hp_4 => ?_)
  rcases hp_4 with ⟨er3, hp_4⟩ | ⟨er3, hp_4⟩
  · subst er3
    intro K4 hK_5
    refine ⟨fun hc => absurd hc (by decide), fun _ => ?_⟩
    refine ⟨fun c8 => ?_, fun c8 => ?_⟩
    · skip
      have f_6 : 0 ≤ (gI z1 2).toInt ∧ (gI z1 2).toInt ≤ 167 := tz1.1 2
      have q_7 := (show (gI z1 2).toInt = (gI z 2).toInt by rw [ez1]; rfl)
      have f_8 : 0 ≤ (gI z 2).toInt ∧ (gI z 2).toInt ≤ 167 := ht.1 2
      have i_9 := i_le (a_add rfl rfl (by omega) (by omega)) (show (167 : Int32).toInt = 167 by decide) c8
      intro K10 hK_10
      have L_11 : ∀ (n : Nat) (v9 : Int32) (z11 : St), TM z11 → Same [0, 1, 2, 21] [11] z z11 → (0 ≤ v9.toInt) → (v9.toInt ≤ b1.toInt) → ((gI z11 2).toInt = (gI z 2).toInt + v9.toInt) → ((gI z 2).toInt + b1.toInt ≤ 167) → (b1.toInt ≤ 48) → (1 ≤ b1.toInt) → (b1.toInt - v9.toInt).toNat < n → K10 v9 z11 := by
        intro n
        induction n with
        | zero => intro v9 z11 tz11 ocz11 w_12 w_13 w_14 w_15 w_16 w_17 m_19; omega
        | succ n ih_18 =>
          intro v9 z11 tz11 ocz11 w_12 w_13 w_14 w_15 w_16 w_17 m_19
          have f_20 : 0 ≤ (gI z11 2).toInt ∧ (gI z11 2).toInt ≤ 167 := tz11.1 2
          refine hK_10 v9 z11 ?_
          refine ⟨fun c12 => ?_, fun c12 => ?_⟩
          · skip
            have i_21 := i_le rfl rfl c12
            intro z13 ez13
            have tz13 : TM z13 := by rw [ez13]; exact Ty_wI tz11 trivial
            have oz13 : Same [0, 1, 2, 21] [11] z z13 := ocz11.i (by decide) ez13
            have f_22 : 0 ≤ (gI z13 2).toInt ∧ (gI z13 2).toInt ≤ 167 := tz13.1 2
            have q_23 := (show (gI z13 2).toInt = (gI z11 2).toInt by rw [ez13]; rfl)
            refine s_X9_told (gI z13 2) z13 _ tz13  (fun r15 z14 tz14 o_25 hp_24 => ?_)
            have oz14 : Same [0, 1, 2, 21] [11] z z14 := oz13.tr o_25 (by decide) (by decide)
            have f_26 : 0 ≤ (gI z14 2).toInt ∧ (gI z14 2).toInt ≤ 167 := tz14.1 2
            have q_27 := ((o_25.fi 2 (by decide))).trans (show (gI z13 2).toInt = (gI z11 2).toInt by rw [ez13]; rfl)
            exact hk r15 z14 tz14 oz14 (by omega)
          · skip
            have i_28 := i_nle rfl rfl c12
            intro K17 hK_29
            have L_30 : ∀ (n : Nat) (v16 : Int32) (z18 : St), TM z18 → Same [0, 1, 2, 21] [11] z z18 → (0 ≤ v16.toInt) → (v16.toInt ≤ 16) → ((gI z18 2).toInt = (gI z11 2).toInt) → (16 - v16.toInt).toNat < n → K17 v16 z18 := by
              intro n
              induction n with
              | zero => intro v16 z18 tz18 ocz18 w_31 w_32 w_33 m_35; omega
              | succ n ih_34 =>
                intro v16 z18 tz18 ocz18 w_31 w_32 w_33 m_35
                have f_36 : 0 ≤ (gI z18 2).toInt ∧ (gI z18 2).toInt ≤ 167 := tz18.1 2
                refine hK_29 v16 z18 ?_
                refine ⟨fun c19 => ?_, fun c19 => ?_⟩
                · skip
                  have f_37 : 0 ≤ (gI z18 12).toInt ∧ (gI z18 12).toInt ≤ 16 := tz18.1 12
                  have q_38 := (ocz18.fi 12 (by decide))
                  have f_39 : 0 ≤ (gI z 12).toInt ∧ (gI z 12).toInt ≤ 16 := ht.1 12
                  have i_40 := i_le rfl rfl c19
                  intro z20 ez20
                  have tz20 : TM z20 := by rw [ez20]; exact Ty_wI tz18 (show 0 ≤ ((gI z18 2) + (1 : Int32)).toInt ∧ ((gI z18 2) + (1 : Int32)).toInt ≤ 167 from by rw [(a_add rfl (show (1 : Int32).toInt = 1 by decide) (by omega) (by omega))]; omega)
                  have oz20 : Same [0, 1, 2, 21] [11] z z20 := ocz18.i (by decide) ez20
                  intro x21 ex21
                  have ix21 : x21.toInt = (v9.toInt + (1)) := by rw [ex21]; exact (a_add rfl (show (1 : Int32).toInt = 1 by decide) (by omega) (by omega))
                  have f_41 : 0 ≤ (gI z20 2).toInt ∧ (gI z20 2).toInt ≤ 167 := tz20.1 2
                  have q_42 := (show (gI z20 2).toInt = ((gI z18 2) + (1 : Int32)).toInt by rw [ez20]; rfl)
                  have q_43 : ((gI z18 2) + (1 : Int32)).toInt = ((gI z18 2).toInt + (1)) := (a_add rfl (show (1 : Int32).toInt = 1 by decide) (by omega) (by omega))
                  exact ih_18 x21 z20 tz20 oz20 (by omega) (by omega) (by omega) (by omega) (by omega) (by omega) (by omega)
                · skip
                  have f_44 : 0 ≤ (gI z18 12).toInt ∧ (gI z18 12).toInt ≤ 16 := tz18.1 12
                  have q_45 := (ocz18.fi 12 (by decide))
                  have f_46 : 0 ≤ (gI z 12).toInt ∧ (gI z 12).toInt ≤ 16 := ht.1 12
                  have i_47 := i_nle rfl rfl c19
                  refine ⟨vin rfl (by omega) (by omega), ?_⟩
                  intro K24 hK_48
                  intro K28 hK_49
                  refine ⟨fun c29 => ?_, fun c29 => ?_⟩
                  · skip
                    have i_50 := i_ne rfl (show (1 : Int32).toInt = 1 by decide) c29
                    refine hK_49 v16 ?_
                    refine ⟨vin rfl (by omega) (by omega), ?_⟩
                    refine hK_48 ((gF z18 11 v16.toNatClampNeg)) v16 ?_
                    refine ⟨vin rfl (by omega) (by omega), ?_⟩
                    intro z_51 ez_51
                    have tz_51 : TM z_51 := by rw [ez_51]; exact Ty_wR tz18 trivial
                    have oz_51 : Same [0, 1, 2, 21] [11] z z_51 := ocz18.r (by decide) ez_51
                    intro y_52 ey_52
                    have iy_52 : y_52.toInt = (v16.toInt + (1)) := by rw [ey_52]; exact (a_add rfl (show (1 : Int32).toInt = 1 by decide) (by omega) (by omega))
                    have f_53 : 0 ≤ (gI z_51 2).toInt ∧ (gI z_51 2).toInt ≤ 167 := tz_51.1 2
                    have q_54 := (show (gI z_51 2).toInt = (gI z18 2).toInt by rw [ez_51]; rfl)
                    exact ih_34 y_52 z_51 tz_51 oz_51 (by omega) (by omega) (by omega) (by omega)
                  · skip
                    have i_55 := i_eq rfl (show (1 : Int32).toInt = 1 by decide) c29
                    refine ⟨vin rfl (by omega) (by omega), ?_⟩
                    refine ⟨fun c30 => ?_, fun c30 => ?_⟩
                    · skip
                      have q_56 := (ocz18.ff 12 v16.toNatClampNeg (by decide))
                      have i_57 := i_ne rfl rfl c30
                      refine hK_49 v16 ?_
                      refine ⟨vin rfl (by omega) (by omega), ?_⟩
                      refine hK_48 ((gF z18 11 v16.toNatClampNeg)) v16 ?_
                      refine ⟨vin rfl (by omega) (by omega), ?_⟩
                      intro z_58 ez_58
                      have tz_58 : TM z_58 := by rw [ez_58]; exact Ty_wR tz18 trivial
                      have oz_58 : Same [0, 1, 2, 21] [11] z z_58 := ocz18.r (by decide) ez_58
                      intro y_59 ey_59
                      have iy_59 : y_59.toInt = (v16.toInt + (1)) := by rw [ey_59]; exact (a_add rfl (show (1 : Int32).toInt = 1 by decide) (by omega) (by omega))
                      have f_60 : 0 ≤ (gI z_58 2).toInt ∧ (gI z_58 2).toInt ≤ 167 := tz_58.1 2
                      have q_61 := (show (gI z_58 2).toInt = (gI z18 2).toInt by rw [ez_58]; rfl)
                      exact ih_34 y_59 z_58 tz_58 oz_58 (by omega) (by omega) (by omega) (by omega)
                    · skip
                      have q_62 := (ocz18.ff 12 v16.toNatClampNeg (by decide))
                      have i_63 := i_eq rfl rfl c30
                      refine hK_48 ((2 : Int32)) v16 ?_
                      refine ⟨vin rfl (by omega) (by omega), ?_⟩
                      intro z_64 ez_64
                      have tz_64 : TM z_64 := by rw [ez_64]; exact Ty_wR tz18 trivial
                      have oz_64 : Same [0, 1, 2, 21] [11] z z_64 := ocz18.r (by decide) ez_64
                      intro y_65 ey_65
                      have iy_65 : y_65.toInt = (v16.toInt + (1)) := by rw [ey_65]; exact (a_add rfl (show (1 : Int32).toInt = 1 by decide) (by omega) (by omega))
                      have f_66 : 0 ≤ (gI z_64 2).toInt ∧ (gI z_64 2).toInt ≤ 167 := tz_64.1 2
                      have q_67 := (show (gI z_64 2).toInt = (gI z18 2).toInt by rw [ez_64]; rfl)
                      exact ih_34 y_65 z_64 tz_64 oz_64 (by omega) (by omega) (by omega) (by omega)
            have g_68 : (0 : Int32).toInt = 0 := by decide
            exact L_30 ((16 - (0 : Int32).toInt).toNat + 1) ((0 : Int32)) z11 tz11 ocz11 (by omega) (by omega) (by omega) (by omega)
      have g_69 : (0 : Int32).toInt = 0 := by decide
      exact L_11 ((b1.toInt - (0 : Int32).toInt).toNat + 1) ((0 : Int32)) z1 tz1 oz1 (by omega) (by omega) (by omega) (by omega) (by omega) (by omega) (by omega)
    · skip
      have f_70 : 0 ≤ (gI z1 2).toInt ∧ (gI z1 2).toInt ≤ 167 := tz1.1 2
      have q_71 := (show (gI z1 2).toInt = (gI z 2).toInt by rw [ez1]; rfl)
      have f_72 : 0 ≤ (gI z 2).toInt ∧ (gI z 2).toInt ≤ 167 := ht.1 2
      have i_73 := i_nle (a_add rfl rfl (by omega) (by omega)) (show (167 : Int32).toInt = 167 by decide) c8
      refine hK_5  ?_
      have g_76 : (-1 : Int32).toInt = -1 := by decide
      refine s_X9_told ((-1 : Int32)) z1 _ tz1  (fun r_74 z_75 tz_75 o_78 hp_77 => ?_)
      have oz_75 : Same [0, 1, 2, 21] [11] z z_75 := oz1.tr o_78 (by decide) (by decide)
      have f_79 : 0 ≤ (gI z_75 2).toInt ∧ (gI z_75 2).toInt ≤ 167 := tz_75.1 2
      have q_80 := ((o_78.fi 2 (by decide))).trans (show (gI z1 2).toInt = (gI z 2).toInt by rw [ez1]; rfl)
      exact hk r_74 z_75 tz_75 oz_75 (by omega)
  · subst er3
    intro K4 hK_81
    refine ⟨fun _ => ?_, fun hc => absurd (show ((0 : Int32)) = ((0 : Int32)) by decide) hc⟩
    refine hK_81  ?_
    have g_84 : (-1 : Int32).toInt = -1 := by decide
    refine s_X9_told ((-1 : Int32)) z1 _ tz1  (fun r_82 z_83 tz_83 o_86 hp_85 => ?_)
    have oz_83 : Same [0, 1, 2, 21] [11] z z_83 := oz1.tr o_86 (by decide) (by decide)
    have f_87 : 0 ≤ (gI z 2).toInt ∧ (gI z 2).toInt ≤ 167 := ht.1 2
    have f_88 : 0 ≤ (gI z_83 2).toInt ∧ (gI z_83 2).toInt ≤ 167 := tz_83.1 2
    have q_89 := ((o_86.fi 2 (by decide))).trans (show (gI z1 2).toInt = (gI z 2).toInt by rw [ez1]; rfl)
    exact hk r_82 z_83 tz_83 oz_83 (by omega)

set_option maxHeartbeats 2000000 in
theorem s_X9_load (b1 : Int32) (b2 : Int32) (z : St) (P : Int32 → St → Prop) (ht : TM z)  (hk : ∀ (r : Int32) (z2 : St), TM z2 → Same [0] [] z z2 → (True) → P r z2) : wp_X9_load b1 b2 z P := by
  unfold wp_X9_load
  intro z1 ez1
  have tz1 : TM z1 := by rw [ez1]; exact Ty_wI ht trivial
  have oz1 : Same [0] [] z z1 := (Same.rf (z := z)).i (by decide) ez1
  refine s_X9_isHome b1 z1 _ tz1  (fun r3 hp_1 => ?_)
  rcases hp_1 with ⟨er3, hp_1⟩ | ⟨er3, hp_1⟩
  · subst er3
    have f_2 : 0 ≤ (gI z1 8).toInt ∧ (gI z1 8).toInt ≤ 4 := tz1.1 8
    have q_3 := (show (gI z1 8).toInt = (gI z 8).toInt by rw [ez1]; rfl)
    have f_4 : 0 ≤ (gI z 8).toInt ∧ (gI z 8).toInt ≤ 4 := ht.1 8
    refine ⟨fun hc => absurd hc (by decide), fun _ => ?_⟩
    refine s_X9_isHour b2 z1 _ tz1  (fun r6 hp_5 => ?_)
    rcases hp_5 with ⟨er6, hp_5⟩ | ⟨er6, hp_5⟩
    · subst er6
      refine ⟨fun hc => absurd hc (by decide), fun _ => ?_⟩
      have g_6 : (-1 : Int32).toInt = -1 := by decide
      refine s_X9_loadOf b1 b2 ((-1 : Int32)) z1 _ tz1 (by omega) (by omega) (fun r9 hp_7 => ?_)
      exact hk r9 z1 tz1 oz1 trivial
    · subst er6
      refine ⟨fun _ => ?_, fun hc => absurd (show ((0 : Int32)) = ((0 : Int32)) by decide) hc⟩
      have g_8 : (-1 : Int32).toInt = -1 := by decide
      exact hk ((-1 : Int32)) z1 tz1 oz1 trivial
  · subst er3
    have f_9 : 0 ≤ (gI z1 8).toInt ∧ (gI z1 8).toInt ≤ 4 := tz1.1 8
    have q_10 := (show (gI z1 8).toInt = (gI z 8).toInt by rw [ez1]; rfl)
    have f_11 : 0 ≤ (gI z 8).toInt ∧ (gI z 8).toInt ≤ 4 := ht.1 8
    refine ⟨fun _ => ?_, fun hc => absurd (show ((0 : Int32)) = ((0 : Int32)) by decide) hc⟩
    have g_12 : (-1 : Int32).toInt = -1 := by decide
    exact hk ((-1 : Int32)) z1 tz1 oz1 trivial

set_option maxHeartbeats 2000000 in
theorem s_X9_cost (b1 : Int32) (b2 : Int32) (z : St) (P : Int64 → St → Prop) (ht : TM z)  (hk : ∀ (r : Int64) (z2 : St), TM z2 → Same [0] [] z z2 → (True) → P r z2) : wp_X9_cost b1 b2 z P := by
  unfold wp_X9_cost
  intro z1 ez1
  have tz1 : TM z1 := by rw [ez1]; exact Ty_wI ht trivial
  have oz1 : Same [0] [] z z1 := (Same.rf (z := z)).i (by decide) ez1
  refine s_X9_isJob b1 z1 _ tz1  (fun r3 hp_1 => ?_)
  rcases hp_1 with ⟨er3, hp_1⟩ | ⟨er3, hp_1⟩
  · subst er3
    have f_2 : 0 ≤ (gI z1 12).toInt ∧ (gI z1 12).toInt ≤ 16 := tz1.1 12
    have q_3 := (show (gI z1 12).toInt = (gI z 12).toInt by rw [ez1]; rfl)
    have f_4 : 0 ≤ (gI z 12).toInt ∧ (gI z 12).toInt ≤ 16 := ht.1 12
    refine ⟨fun hc => absurd hc (by decide), fun _ => ?_⟩
    refine ⟨vin rfl (by omega) (by omega), ?_⟩
    refine ⟨fun c5 => ?_, fun c5 => ?_⟩
    · skip
      have q_5 := (show (gF z1 11 b1.toNatClampNeg).toInt = (gF z 11 b1.toNatClampNeg).toInt by rw [ez1]; rfl)
      have i_6 := i_eq rfl (show (0 : Int32).toInt = 0 by decide) c5
      exact hk ((0 : Int64)) z1 tz1 oz1 trivial
    · skip
      have q_7 := (show (gF z1 11 b1.toNatClampNeg).toInt = (gF z 11 b1.toNatClampNeg).toInt by rw [ez1]; rfl)
      have i_8 := i_ne rfl (show (0 : Int32).toInt = 0 by decide) c5
      refine s_X9_isKnown b2 z1 _ tz1  (fun r7 hp_9 => ?_)
      rcases hp_9 with ⟨er7, hp_9⟩ | ⟨er7, hp_9⟩
      · subst er7
        refine ⟨fun hc => absurd hc (by decide), fun _ => ?_⟩
        refine ⟨vin rfl (by omega) (by omega), ?_⟩
        have q_10 := (show (gF z1 12 b1.toNatClampNeg).toInt = (gF z 12 b1.toNatClampNeg).toInt by rw [ez1]; rfl)
        refine s_X9_costAt b1 (gF z1 12 b1.toNatClampNeg) b2 z1 _ tz1 (by omega) (fun r10 hp_11 => ?_)
        exact hk r10 z1 tz1 oz1 trivial
      · subst er7
        refine ⟨fun _ => ?_, fun hc => absurd (show ((0 : Int32)) = ((0 : Int32)) by decide) hc⟩
        exact hk ((0 : Int64)) z1 tz1 oz1 trivial
  · subst er3
    have f_12 : 0 ≤ (gI z1 12).toInt ∧ (gI z1 12).toInt ≤ 16 := tz1.1 12
    have q_13 := (show (gI z1 12).toInt = (gI z 12).toInt by rw [ez1]; rfl)
    have f_14 : 0 ≤ (gI z 12).toInt ∧ (gI z 12).toInt ≤ 16 := ht.1 12
    refine ⟨fun _ => ?_, fun hc => absurd (show ((0 : Int32)) = ((0 : Int32)) by decide) hc⟩
    exact hk ((0 : Int64)) z1 tz1 oz1 trivial

set_option maxHeartbeats 2000000 in
theorem s_X9_saved (b1 : Int32) (z : St) (P : Int64 → St → Prop) (ht : TM z)  (hk : ∀ (r : Int64) (z2 : St), TM z2 → Same [0] [] z z2 → (True) → P r z2) : wp_X9_saved b1 z P := by
  unfold wp_X9_saved
  intro z1 ez1
  have tz1 : TM z1 := by rw [ez1]; exact Ty_wI ht trivial
  have oz1 : Same [0] [] z z1 := (Same.rf (z := z)).i (by decide) ez1
  intro K4 hK_1
  have L_2 : ∀ (n : Nat) (v2 : Int64) (v3 : Int32), (0 ≤ v3.toInt) → (v3.toInt ≤ 16) → (16 - v3.toInt).toNat < n → K4 v2 v3 := by
    intro n
    induction n with
    | zero => intro v2 v3 w_3 w_4 m_6; omega
    | succ n ih_5 =>
      intro v2 v3 w_3 w_4 m_6
      refine hK_1 v2 v3 ?_
      refine ⟨fun c5 => ?_, fun c5 => ?_⟩
      · skip
        have f_7 : 0 ≤ (gI z1 12).toInt ∧ (gI z1 12).toInt ≤ 16 := tz1.1 12
        have q_8 := (show (gI z1 12).toInt = (gI z 12).toInt by rw [ez1]; rfl)
        have f_9 : 0 ≤ (gI z 12).toInt ∧ (gI z 12).toInt ≤ 16 := ht.1 12
        have i_10 := i_le rfl rfl c5
        exact hk v2 z1 tz1 oz1 trivial
      · skip
        have f_11 : 0 ≤ (gI z1 12).toInt ∧ (gI z1 12).toInt ≤ 16 := tz1.1 12
        have q_12 := (show (gI z1 12).toInt = (gI z 12).toInt by rw [ez1]; rfl)
        have f_13 : 0 ≤ (gI z 12).toInt ∧ (gI z 12).toInt ≤ 16 := ht.1 12
        have i_14 := i_nle rfl rfl c5
        refine s_X9_isKnown b1 z1 _ tz1  (fun r7 hp_15 => ?_)
        rcases hp_15 with ⟨er7, hp_15⟩ | ⟨er7, hp_15⟩
        · subst er7
          refine ⟨fun hc => absurd hc (by decide), fun _ => ?_⟩
          refine ⟨vin rfl (by omega) (by omega), ?_⟩
          intro K11 hK_16
          refine ⟨fun c14 => ?_, fun c14 => ?_⟩
          · skip
            have q_17 := (show (gF z1 11 v3.toNatClampNeg).toInt = (gF z 11 v3.toNatClampNeg).toInt by rw [ez1]; rfl)
            have i_18 := i_ne rfl (show (2 : Int32).toInt = 2 by decide) c14
            refine hK_16 ((0 : Int64)) v2 ?_
            intro y_19 ey_19
            intro y_20 ey_20
            have iy_20 : y_20.toInt = (v3.toInt + (1)) := by rw [ey_20]; exact (a_add rfl (show (1 : Int32).toInt = 1 by decide) (by omega) (by omega))
            exact ih_5 y_19 y_20 (by omega) (by omega) (by omega)
          · skip
            have q_21 := (show (gF z1 11 v3.toNatClampNeg).toInt = (gF z 11 v3.toNatClampNeg).toInt by rw [ez1]; rfl)
            have i_22 := i_eq rfl (show (2 : Int32).toInt = 2 by decide) c14
            refine ⟨vin rfl (by omega) (by omega), ?_⟩
            have f_23 : 0 ≤ (gF z1 7 v3.toNatClampNeg).toInt ∧ (gF z1 7 v3.toNatClampNeg).toInt ≤ 167 := tz1.2 7 _
            have q_24 := (show (gF z1 7 v3.toNatClampNeg).toInt = (gF z 7 v3.toNatClampNeg).toInt by rw [ez1]; rfl)
            have f_25 : 0 ≤ (gF z 7 v3.toNatClampNeg).toInt ∧ (gF z 7 v3.toNatClampNeg).toInt ≤ 167 := ht.2 7 _
            refine s_X9_costAt v3 (gF z1 7 v3.toNatClampNeg) b1 z1 _ tz1 (by omega) (fun r16 hp_26 => ?_)
            refine ⟨vin rfl (by omega) (by omega), ?_⟩
            have q_27 := (show (gF z1 12 v3.toNatClampNeg).toInt = (gF z 12 v3.toNatClampNeg).toInt by rw [ez1]; rfl)
            refine s_X9_costAt v3 (gF z1 12 v3.toNatClampNeg) b1 z1 _ tz1 (by omega) (fun r18 hp_28 => ?_)
            refine hK_16 ((r16 - r18)) v2 ?_
            intro y_29 ey_29
            intro y_30 ey_30
            have iy_30 : y_30.toInt = (v3.toInt + (1)) := by rw [ey_30]; exact (a_add rfl (show (1 : Int32).toInt = 1 by decide) (by omega) (by omega))
            exact ih_5 y_29 y_30 (by omega) (by omega) (by omega)
        · subst er7
          refine ⟨fun _ => ?_, fun hc => absurd (show ((0 : Int32)) = ((0 : Int32)) by decide) hc⟩
          exact hk v2 z1 tz1 oz1 trivial
  have g_31 : (0 : Int32).toInt = 0 := by decide
  exact L_2 ((16 - (0 : Int32).toInt).toNat + 1) ((0 : Int64)) ((0 : Int32)) (by omega) (by omega) (by omega)

set_option maxHeartbeats 2000000 in
theorem s_X9_store (b1 : Int32) (b2 : Int32) (b3 : Int32) (b4 : Int32) (b5 : Int32) (b6 : Int32) (b7 : Int32) (z : St) (P : Int32 → St → Prop) (ht : TM z)  (hk : ∀ (r : Int32) (z2 : St), TM z2 → Same [0, 1, 43] [26, 27, 28, 29, 30, 31, 32] z z2 → (True) → P r z2) : wp_X9_store b1 b2 b3 b4 b5 b6 b7 z P := by
  unfold wp_X9_store
  intro z1 ez1
  have tz1 : TM z1 := by rw [ez1]; exact Ty_wI ht trivial
  have oz1 : Same [0, 1, 43] [26, 27, 28, 29, 30, 31, 32] z z1 := (Same.rf (z := z)).i (by decide) ez1
  have g_1 : (Int32.toInt64 b2).toInt = b2.toInt := (a_wide rfl)
  have g_2 : (1 : Int64).toInt = 1 := by decide
  have g_3 : (40 : Int64).toInt = 40 := by decide
  refine s_X9_in (Int32.toInt64 b2) ((1 : Int64)) ((40 : Int64)) z1 _ tz1  (fun r3 hp_4 => ?_)
  rcases hp_4 with ⟨er3, hp_4⟩ | ⟨er3, hp_4⟩
  · subst er3
    intro K4 hK_5
    refine ⟨fun hc => absurd hc (by decide), fun _ => ?_⟩
    have g_6 : (Int32.toInt64 b3).toInt = b3.toInt := (a_wide rfl)
    have g_7 : (0 : Int64).toInt = 0 := by decide
    have g_8 : (Int32.toInt64 b2).toInt = b2.toInt := (a_wide rfl)
    refine s_X9_in (Int32.toInt64 b3) ((0 : Int64)) (Int32.toInt64 b2) z1 _ tz1  (fun r9 hp_9 => ?_)
    rcases hp_9 with ⟨er9, hp_9⟩ | ⟨er9, hp_9⟩
    · subst er9
      refine ⟨fun hc => absurd hc (by decide), fun _ => ?_⟩
      have g_10 : (Int32.toInt64 b4).toInt = b4.toInt := (a_wide rfl)
      have g_11 : (0 : Int64).toInt = 0 := by decide
      have g_12 : (10 : Int64).toInt = 10 := by decide
      refine s_X9_in (Int32.toInt64 b4) ((0 : Int64)) ((10 : Int64)) z1 _ tz1  (fun r12 hp_13 => ?_)
      rcases hp_13 with ⟨er12, hp_13⟩ | ⟨er12, hp_13⟩
      · subst er12
        refine ⟨fun hc => absurd hc (by decide), fun _ => ?_⟩
        have g_14 : (Int32.toInt64 b5).toInt = b5.toInt := (a_wide rfl)
        have g_15 : (0 : Int64).toInt = 0 := by decide
        have g_16 : (10 : Int64).toInt = 10 := by decide
        refine s_X9_in (Int32.toInt64 b5) ((0 : Int64)) ((10 : Int64)) z1 _ tz1  (fun r15 hp_17 => ?_)
        rcases hp_17 with ⟨er15, hp_17⟩ | ⟨er15, hp_17⟩
        · subst er15
          refine ⟨fun hc => absurd hc (by decide), fun _ => ?_⟩
          have g_18 : (Int32.toInt64 b6).toInt = b6.toInt := (a_wide rfl)
          have g_19 : (0 : Int64).toInt = 0 := by decide
          have g_20 : (3 : Int64).toInt = 3 := by decide
          refine s_X9_in (Int32.toInt64 b6) ((0 : Int64)) ((3 : Int64)) z1 _ tz1  (fun r18 hp_21 => ?_)
          rcases hp_21 with ⟨er18, hp_21⟩ | ⟨er18, hp_21⟩
          · subst er18
            refine ⟨fun hc => absurd hc (by decide), fun _ => ?_⟩
            have g_22 : (Int32.toInt64 b7).toInt = b7.toInt := (a_wide rfl)
            have g_23 : (1 : Int64).toInt = 1 := by decide
            have g_24 : (1000 : Int64).toInt = 1000 := by decide
            refine s_X9_in (Int32.toInt64 b7) ((1 : Int64)) ((1000 : Int64)) z1 _ tz1  (fun r21 hp_25 => ?_)
            rcases hp_25 with ⟨er21, hp_25⟩ | ⟨er21, hp_25⟩
            · subst er21
              refine ⟨fun _ => ?_, fun hc => absurd hc (by decide)⟩
              refine s_X9_isHome b1 z1 _ tz1  (fun r24 hp_26 => ?_)
              rcases hp_26 with ⟨er24, hp_26⟩ | ⟨er24, hp_26⟩
              · subst er24
                have f_27 : 0 ≤ (gI z1 8).toInt ∧ (gI z1 8).toInt ≤ 4 := tz1.1 8
                have q_28 := (show (gI z1 8).toInt = (gI z 8).toInt by rw [ez1]; rfl)
                have f_29 : 0 ≤ (gI z 8).toInt ∧ (gI z 8).toInt ≤ 4 := ht.1 8
                refine ⟨fun _ => ?_, fun hc => absurd hc (by decide)⟩
                refine ⟨fun c26 => ?_, fun c26 => ?_⟩
                · skip
                  have f_30 : 0 ≤ (gI z1 43).toInt ∧ (gI z1 43).toInt ≤ 6 := tz1.1 43
                  have q_31 := (show (gI z1 43).toInt = (gI z 43).toInt by rw [ez1]; rfl)
                  have f_32 : 0 ≤ (gI z 43).toInt ∧ (gI z 43).toInt ≤ 6 := ht.1 43
                  have i_33 := i_ne rfl (show (6 : Int32).toInt = 6 by decide) c26
                  refine ⟨vin rfl (by omega) (by omega), ?_⟩
                  intro z27 ez27
                  have tz27 : TM z27 := by rw [ez27]; exact Ty_wR tz1 (show 0 ≤ b1.toInt ∧ b1.toInt ≤ 3 from by omega)
                  have oz27 : Same [0, 1, 43] [26, 27, 28, 29, 30, 31, 32] z z27 := oz1.r (by decide) ez27
                  have f_34 : 0 ≤ (gI z27 43).toInt ∧ (gI z27 43).toInt ≤ 6 := tz27.1 43
                  have q_35 := ((show (gI z27 43).toInt = (gI z1 43).toInt by rw [ez27]; rfl)).trans (show (gI z1 43).toInt = (gI z 43).toInt by rw [ez1]; rfl)
                  refine ⟨vin rfl (by omega) (by omega), ?_⟩
                  intro z28 ez28
                  have tz28 : TM z28 := by rw [ez28]; exact Ty_wR tz27 (show 0 ≤ b2.toInt ∧ b2.toInt ≤ 40 from by omega)
                  have oz28 : Same [0, 1, 43] [26, 27, 28, 29, 30, 31, 32] z z28 := oz27.r (by decide) ez28
                  have f_36 : 0 ≤ (gI z28 43).toInt ∧ (gI z28 43).toInt ≤ 6 := tz28.1 43
                  have q_37 := (((show (gI z28 43).toInt = (gI z27 43).toInt by rw [ez28]; rfl)).trans (show (gI z27 43).toInt = (gI z1 43).toInt by rw [ez27]; rfl)).trans (show (gI z1 43).toInt = (gI z 43).toInt by rw [ez1]; rfl)
                  refine ⟨vin rfl (by omega) (by omega), ?_⟩
                  intro z29 ez29
                  have tz29 : TM z29 := by rw [ez29]; exact Ty_wR tz28 (show 0 ≤ b3.toInt ∧ b3.toInt ≤ 40 from by omega)
                  have oz29 : Same [0, 1, 43] [26, 27, 28, 29, 30, 31, 32] z z29 := oz28.r (by decide) ez29
                  have f_38 : 0 ≤ (gI z29 43).toInt ∧ (gI z29 43).toInt ≤ 6 := tz29.1 43
                  have q_39 := ((((show (gI z29 43).toInt = (gI z28 43).toInt by rw [ez29]; rfl)).trans (show (gI z28 43).toInt = (gI z27 43).toInt by rw [ez28]; rfl)).trans (show (gI z27 43).toInt = (gI z1 43).toInt by rw [ez27]; rfl)).trans (show (gI z1 43).toInt = (gI z 43).toInt by rw [ez1]; rfl)
                  refine ⟨vin rfl (by omega) (by omega), ?_⟩
                  intro z30 ez30
                  have tz30 : TM z30 := by rw [ez30]; exact Ty_wR tz29 (show 0 ≤ b4.toInt ∧ b4.toInt ≤ 10 from by omega)
                  have oz30 : Same [0, 1, 43] [26, 27, 28, 29, 30, 31, 32] z z30 := oz29.r (by decide) ez30
                  have f_40 : 0 ≤ (gI z30 43).toInt ∧ (gI z30 43).toInt ≤ 6 := tz30.1 43
                  have q_41 := (((((show (gI z30 43).toInt = (gI z29 43).toInt by rw [ez30]; rfl)).trans (show (gI z29 43).toInt = (gI z28 43).toInt by rw [ez29]; rfl)).trans (show (gI z28 43).toInt = (gI z27 43).toInt by rw [ez28]; rfl)).trans (show (gI z27 43).toInt = (gI z1 43).toInt by rw [ez27]; rfl)).trans (show (gI z1 43).toInt = (gI z 43).toInt by rw [ez1]; rfl)
                  refine ⟨vin rfl (by omega) (by omega), ?_⟩
                  intro z31 ez31
                  have tz31 : TM z31 := by rw [ez31]; exact Ty_wR tz30 (show 0 ≤ b5.toInt ∧ b5.toInt ≤ 10 from by omega)
                  have oz31 : Same [0, 1, 43] [26, 27, 28, 29, 30, 31, 32] z z31 := oz30.r (by decide) ez31
                  have f_42 : 0 ≤ (gI z31 43).toInt ∧ (gI z31 43).toInt ≤ 6 := tz31.1 43
                  have q_43 := ((((((show (gI z31 43).toInt = (gI z30 43).toInt by rw [ez31]; rfl)).trans (show (gI z30 43).toInt = (gI z29 43).toInt by rw [ez30]; rfl)).trans (show (gI z29 43).toInt = (gI z28 43).toInt by rw [ez29]; rfl)).trans (show (gI z28 43).toInt = (gI z27 43).toInt by rw [ez28]; rfl)).trans (show (gI z27 43).toInt = (gI z1 43).toInt by rw [ez27]; rfl)).trans (show (gI z1 43).toInt = (gI z 43).toInt by rw [ez1]; rfl)
                  refine ⟨vin rfl (by omega) (by omega), ?_⟩
                  intro z32 ez32
                  have tz32 : TM z32 := by rw [ez32]; exact Ty_wR tz31 (show 0 ≤ b6.toInt ∧ b6.toInt ≤ 3 from by omega)
                  have oz32 : Same [0, 1, 43] [26, 27, 28, 29, 30, 31, 32] z z32 := oz31.r (by decide) ez32
                  have f_44 : 0 ≤ (gI z32 43).toInt ∧ (gI z32 43).toInt ≤ 6 := tz32.1 43
                  have q_45 := (((((((show (gI z32 43).toInt = (gI z31 43).toInt by rw [ez32]; rfl)).trans (show (gI z31 43).toInt = (gI z30 43).toInt by rw [ez31]; rfl)).trans (show (gI z30 43).toInt = (gI z29 43).toInt by rw [ez30]; rfl)).trans (show (gI z29 43).toInt = (gI z28 43).toInt by rw [ez29]; rfl)).trans (show (gI z28 43).toInt = (gI z27 43).toInt by rw [ez28]; rfl)).trans (show (gI z27 43).toInt = (gI z1 43).toInt by rw [ez27]; rfl)).trans (show (gI z1 43).toInt = (gI z 43).toInt by rw [ez1]; rfl)
                  refine ⟨vin rfl (by omega) (by omega), ?_⟩
                  intro z33 ez33
                  have tz33 : TM z33 := by rw [ez33]; exact Ty_wR tz32 trivial
                  have oz33 : Same [0, 1, 43] [26, 27, 28, 29, 30, 31, 32] z z33 := oz32.r (by decide) ez33
                  intro z34 ez34
                  have f_46 : 0 ≤ (gI z33 43).toInt ∧ (gI z33 43).toInt ≤ 6 := tz33.1 43
                  have q_47 := ((((((((show (gI z33 43).toInt = (gI z32 43).toInt by rw [ez33]; rfl)).trans (show (gI z32 43).toInt = (gI z31 43).toInt by rw [ez32]; rfl)).trans (show (gI z31 43).toInt = (gI z30 43).toInt by rw [ez31]; rfl)).trans (show (gI z30 43).toInt = (gI z29 43).toInt by rw [ez30]; rfl)).trans (show (gI z29 43).toInt = (gI z28 43).toInt by rw [ez29]; rfl)).trans (show (gI z28 43).toInt = (gI z27 43).toInt by rw [ez28]; rfl)).trans (show (gI z27 43).toInt = (gI z1 43).toInt by rw [ez27]; rfl)).trans (show (gI z1 43).toInt = (gI z 43).toInt by rw [ez1]; rfl)
                  have tz34 : TM z34 := by rw [ez34]; exact Ty_wI tz33 (show 0 ≤ ((gI z33 43) + (1 : Int32)).toInt ∧ ((gI z33 43) + (1 : Int32)).toInt ≤ 6 from by rw [(a_add rfl (show (1 : Int32).toInt = 1 by decide) (by omega) (by omega))]; omega)
                  have oz34 : Same [0, 1, 43] [26, 27, 28, 29, 30, 31, 32] z z34 := oz33.i (by decide) ez34
                  have f_48 : 0 ≤ (gI z34 43).toInt ∧ (gI z34 43).toInt ≤ 6 := tz34.1 43
                  have q_49 := (show (gI z34 43).toInt = ((gI z33 43) + (1 : Int32)).toInt by rw [ez34]; rfl)
                  have q_50 : ((gI z33 43) + (1 : Int32)).toInt = ((gI z33 43).toInt + (1)) := (a_add rfl (show (1 : Int32).toInt = 1 by decide) (by omega) (by omega))
                  have g_51 : ((gI z34 43) - (1 : Int32)).toInt = ((gI z34 43).toInt - (1)) := (a_sub rfl (show (1 : Int32).toInt = 1 by decide) (by omega) (by omega))
                  refine s_X9_told ((gI z34 43) - ((1 : Int32))) z34 _ tz34  (fun r36 z35 tz35 o_53 hp_52 => ?_)
                  have oz35 : Same [0, 1, 43] [26, 27, 28, 29, 30, 31, 32] z z35 := oz34.tr o_53 (by decide) (by decide)
                  exact hk r36 z35 tz35 oz35 trivial
                · skip
                  have f_54 : 0 ≤ (gI z1 43).toInt ∧ (gI z1 43).toInt ≤ 6 := tz1.1 43
                  have q_55 := (show (gI z1 43).toInt = (gI z 43).toInt by rw [ez1]; rfl)
                  have f_56 : 0 ≤ (gI z 43).toInt ∧ (gI z 43).toInt ≤ 6 := ht.1 43
                  have i_57 := i_eq rfl (show (6 : Int32).toInt = 6 by decide) c26
                  have g_58 : (-5 : Int32).toInt = -5 := by decide
                  refine s_X9_told ((-5 : Int32)) z1 _ tz1  (fun r38 z37 tz37 o_60 hp_59 => ?_)
                  have oz37 : Same [0, 1, 43] [26, 27, 28, 29, 30, 31, 32] z z37 := oz1.tr o_60 (by decide) (by decide)
                  exact hk r38 z37 tz37 oz37 trivial
              · subst er24
                have f_61 : 0 ≤ (gI z1 8).toInt ∧ (gI z1 8).toInt ≤ 4 := tz1.1 8
                have q_62 := (show (gI z1 8).toInt = (gI z 8).toInt by rw [ez1]; rfl)
                have f_63 : 0 ≤ (gI z 8).toInt ∧ (gI z 8).toInt ≤ 4 := ht.1 8
                refine ⟨fun hc => absurd hc (by decide), fun _ => ?_⟩
                have g_64 : (-2 : Int32).toInt = -2 := by decide
                refine s_X9_told ((-2 : Int32)) z1 _ tz1  (fun r40 z39 tz39 o_66 hp_65 => ?_)
                have oz39 : Same [0, 1, 43] [26, 27, 28, 29, 30, 31, 32] z z39 := oz1.tr o_66 (by decide) (by decide)
                exact hk r40 z39 tz39 oz39 trivial
            · subst er21
              refine ⟨fun hc => absurd hc (by decide), fun _ => ?_⟩
              refine hK_5  ?_
              have g_69 : (-1 : Int32).toInt = -1 := by decide
              refine s_X9_told ((-1 : Int32)) z1 _ tz1  (fun r_67 z_68 tz_68 o_71 hp_70 => ?_)
              have oz_68 : Same [0, 1, 43] [26, 27, 28, 29, 30, 31, 32] z z_68 := oz1.tr o_71 (by decide) (by decide)
              exact hk r_67 z_68 tz_68 oz_68 trivial
          · subst er18
            refine ⟨fun _ => ?_, fun hc => absurd (show ((0 : Int32)) = ((0 : Int32)) by decide) hc⟩
            refine hK_5  ?_
            have g_74 : (-1 : Int32).toInt = -1 := by decide
            refine s_X9_told ((-1 : Int32)) z1 _ tz1  (fun r_72 z_73 tz_73 o_76 hp_75 => ?_)
            have oz_73 : Same [0, 1, 43] [26, 27, 28, 29, 30, 31, 32] z z_73 := oz1.tr o_76 (by decide) (by decide)
            exact hk r_72 z_73 tz_73 oz_73 trivial
        · subst er15
          refine ⟨fun _ => ?_, fun hc => absurd (show ((0 : Int32)) = ((0 : Int32)) by decide) hc⟩
          refine hK_5  ?_
          have g_79 : (-1 : Int32).toInt = -1 := by decide
          refine s_X9_told ((-1 : Int32)) z1 _ tz1  (fun r_77 z_78 tz_78 o_81 hp_80 => ?_)
          have oz_78 : Same [0, 1, 43] [26, 27, 28, 29, 30, 31, 32] z z_78 := oz1.tr o_81 (by decide) (by decide)
          exact hk r_77 z_78 tz_78 oz_78 trivial
      · subst er12
        refine ⟨fun _ => ?_, fun hc => absurd (show ((0 : Int32)) = ((0 : Int32)) by decide) hc⟩
        refine hK_5  ?_
        have g_84 : (-1 : Int32).toInt = -1 := by decide
        refine s_X9_told ((-1 : Int32)) z1 _ tz1  (fun r_82 z_83 tz_83 o_86 hp_85 => ?_)
        have oz_83 : Same [0, 1, 43] [26, 27, 28, 29, 30, 31, 32] z z_83 := oz1.tr o_86 (by decide) (by decide)
        exact hk r_82 z_83 tz_83 oz_83 trivial
    · subst er9
      refine ⟨fun _ => ?_, fun hc => absurd (show ((0 : Int32)) = ((0 : Int32)) by decide) hc⟩
      refine hK_5  ?_
      have g_89 : (-1 : Int32).toInt = -1 := by decide
      refine s_X9_told ((-1 : Int32)) z1 _ tz1  (fun r_87 z_88 tz_88 o_91 hp_90 => ?_)
      have oz_88 : Same [0, 1, 43] [26, 27, 28, 29, 30, 31, 32] z z_88 := oz1.tr o_91 (by decide) (by decide)
      exact hk r_87 z_88 tz_88 oz_88 trivial
  · subst er3
    intro K4 hK_92
    refine ⟨fun _ => ?_, fun hc => absurd (show ((0 : Int32)) = ((0 : Int32)) by decide) hc⟩
    refine hK_92  ?_
    have g_95 : (-1 : Int32).toInt = -1 := by decide
    refine s_X9_told ((-1 : Int32)) z1 _ tz1  (fun r_93 z_94 tz_94 o_97 hp_96 => ?_)
    have oz_94 : Same [0, 1, 43] [26, 27, 28, 29, 30, 31, 32] z z_94 := oz1.tr o_97 (by decide) (by decide)
    exact hk r_93 z_94 tz_94 oz_94 trivial

set_option maxHeartbeats 2000000 in
theorem s_X9_isStore (b1 : Int32) (z : St) (P : Int32 → Prop) (ht : TM z)  (hk : ∀ r : Int32, (r = 1 ∧ (0 ≤ b1.toInt ∧ b1.toInt < (gI z 43).toInt)) ∨ (r = 0 ∧ (b1.toInt < 0 ∨ (gI z 43).toInt ≤ b1.toInt)) → P r) : wp_X9_isStore b1 z P := by
  unfold wp_X9_isStore
  have g_1 : (Int32.toInt64 b1).toInt = b1.toInt := (a_wide rfl)
  have g_2 : (0 : Int64).toInt = 0 := by decide
  have f_3 : 0 ≤ (gI z 43).toInt ∧ (gI z 43).toInt ≤ 6 := ht.1 43
  have g_4 : ((Int32.toInt64 (gI z 43)) - (1 : Int64)).toInt = ((gI z 43).toInt - (1)) := (a_subL (a_wide rfl) (show (1 : Int64).toInt = 1 by decide) (by omega) (by omega))
  refine s_X9_in (Int32.toInt64 b1) ((0 : Int64)) ((Int32.toInt64 (gI z 43)) - ((1 : Int64))) z _ ht  (fun r2 hp_5 => ?_)
  rcases hp_5 with ⟨er2, hp_5⟩ | ⟨er2, hp_5⟩
  · subst er2
    have g_6 : (1 : Int32).toInt = 1 := by decide
    refine ⟨Or.inr rfl, ?_⟩
    exact hk ((1 : Int32)) (Or.inl ⟨rfl, (by omega)⟩)
  · subst er2
    have g_7 : (0 : Int32).toInt = 0 := by decide
    refine ⟨Or.inl rfl, ?_⟩
    exact hk ((0 : Int32)) (Or.inr ⟨rfl, (by omega)⟩)

set_option maxHeartbeats 2000000 in
theorem s_X9_level (b1 : Int32) (b2 : Int32) (z : St) (P : Int32 → St → Prop) (ht : TM z)  (hk : ∀ (r : Int32) (z2 : St), TM z2 → Same [0, 1] [28] z z2 → (True) → P r z2) : wp_X9_level b1 b2 z P := by
  unfold wp_X9_level
  intro z1 ez1
  have tz1 : TM z1 := by rw [ez1]; exact Ty_wI ht trivial
  have oz1 : Same [0, 1] [28] z z1 := (Same.rf (z := z)).i (by decide) ez1
  refine ⟨fun c2 => ?_, fun c2 => ?_⟩
  · skip
    have i_1 := i_le (show (0 : Int32).toInt = 0 by decide) rfl c2
    refine s_X9_isStore b1 z1 _ tz1  (fun r4 hp_2 => ?_)
    rcases hp_2 with ⟨er4, hp_2⟩ | ⟨er4, hp_2⟩
    · subst er4
      have f_3 : 0 ≤ (gI z1 43).toInt ∧ (gI z1 43).toInt ≤ 6 := tz1.1 43
      have q_4 := (show (gI z1 43).toInt = (gI z 43).toInt by rw [ez1]; rfl)
      have f_5 : 0 ≤ (gI z 43).toInt ∧ (gI z 43).toInt ≤ 6 := ht.1 43
      refine ⟨fun _ => ?_, fun hc => absurd hc (by decide)⟩
      refine ⟨vin rfl (by omega) (by omega), ?_⟩
      refine ⟨fun c6 => ?_, fun c6 => ?_⟩
      · skip
        have f_6 : 0 ≤ (gF z1 27 b1.toNatClampNeg).toInt ∧ (gF z1 27 b1.toNatClampNeg).toInt ≤ 40 := tz1.2 27 _
        have q_7 := (show (gF z1 27 b1.toNatClampNeg).toInt = (gF z 27 b1.toNatClampNeg).toInt by rw [ez1]; rfl)
        have f_8 : 0 ≤ (gF z 27 b1.toNatClampNeg).toInt ∧ (gF z 27 b1.toNatClampNeg).toInt ≤ 40 := ht.2 27 _
        have i_9 := i_le rfl rfl c6
        refine ⟨vin rfl (by omega) (by omega), ?_⟩
        intro x7 ex7
        have f_10 : 0 ≤ (gF z1 28 b1.toNatClampNeg).toInt ∧ (gF z1 28 b1.toNatClampNeg).toInt ≤ 40 := tz1.2 28 _
        have q_11 := (show (gF z1 28 b1.toNatClampNeg).toInt = (gF z 28 b1.toNatClampNeg).toInt by rw [ez1]; rfl)
        have f_12 : 0 ≤ (gF z 28 b1.toNatClampNeg).toInt ∧ (gF z 28 b1.toNatClampNeg).toInt ≤ 40 := ht.2 28 _
        have ix7 : x7.toInt = (gF z1 28 b1.toNatClampNeg).toInt := by rw [ex7]
        refine ⟨vin rfl (by omega) (by omega), ?_⟩
        intro z8 ez8
        have tz8 : TM z8 := by rw [ez8]; exact Ty_wR tz1 (show 0 ≤ b2.toInt ∧ b2.toInt ≤ 40 from by omega)
        have oz8 : Same [0, 1] [28] z z8 := oz1.r (by decide) ez8
        refine s_X9_told x7 z8 _ tz8  (fun r10 z9 tz9 o_14 hp_13 => ?_)
        have oz9 : Same [0, 1] [28] z z9 := oz8.tr o_14 (by decide) (by decide)
        exact hk r10 z9 tz9 oz9 trivial
      · skip
        have f_15 : 0 ≤ (gF z1 27 b1.toNatClampNeg).toInt ∧ (gF z1 27 b1.toNatClampNeg).toInt ≤ 40 := tz1.2 27 _
        have q_16 := (show (gF z1 27 b1.toNatClampNeg).toInt = (gF z 27 b1.toNatClampNeg).toInt by rw [ez1]; rfl)
        have f_17 : 0 ≤ (gF z 27 b1.toNatClampNeg).toInt ∧ (gF z 27 b1.toNatClampNeg).toInt ≤ 40 := ht.2 27 _
        have i_18 := i_nle rfl rfl c6
        have g_19 : (-1 : Int32).toInt = -1 := by decide
        refine s_X9_told ((-1 : Int32)) z1 _ tz1  (fun r12 z11 tz11 o_21 hp_20 => ?_)
        have oz11 : Same [0, 1] [28] z z11 := oz1.tr o_21 (by decide) (by decide)
        exact hk r12 z11 tz11 oz11 trivial
    · subst er4
      have f_22 : 0 ≤ (gI z1 43).toInt ∧ (gI z1 43).toInt ≤ 6 := tz1.1 43
      have q_23 := (show (gI z1 43).toInt = (gI z 43).toInt by rw [ez1]; rfl)
      have f_24 : 0 ≤ (gI z 43).toInt ∧ (gI z 43).toInt ≤ 6 := ht.1 43
      refine ⟨fun hc => absurd hc (by decide), fun _ => ?_⟩
      have g_25 : (-2 : Int32).toInt = -2 := by decide
      refine s_X9_told ((-2 : Int32)) z1 _ tz1  (fun r14 z13 tz13 o_27 hp_26 => ?_)
      have oz13 : Same [0, 1] [28] z z13 := oz1.tr o_27 (by decide) (by decide)
      exact hk r14 z13 tz13 oz13 trivial
  · skip
    have i_28 := i_nle (show (0 : Int32).toInt = 0 by decide) rfl c2
    have g_29 : (-1 : Int32).toInt = -1 := by decide
    refine s_X9_told ((-1 : Int32)) z1 _ tz1  (fun r16 z15 tz15 o_31 hp_30 => ?_)
    have oz15 : Same [0, 1] [28] z z15 := oz1.tr o_31 (by decide) (by decide)
    exact hk r16 z15 tz15 oz15 trivial

set_option maxHeartbeats 2000000 in
theorem s_X9_afterwards (b1 : Int32) (b2 : Int32) (z : St) (P : Int32 → Prop) (ht : TM z) (h0 : 0 ≤ b1.toInt ∧ b1.toInt ≤ 5) (h1 : 0 ≤ b2.toInt ∧ b2.toInt ≤ 40) (hk : ∀ r : Int32, 0 ≤ r.toInt ∧ r.toInt ≤ b2.toInt → P r) : wp_X9_afterwards b1 b2 z P := by
  unfold wp_X9_afterwards
  refine ⟨vin rfl (by omega) (by omega), ?_⟩
  refine ⟨fun c1 => ?_, fun c1 => ?_⟩
  · skip
    have f_1 : 0 ≤ (gF z 31 b1.toNatClampNeg).toInt ∧ (gF z 31 b1.toNatClampNeg).toInt ≤ 3 := ht.2 31 _
    have i_2 := i_le rfl rfl c1
    refine ⟨vin rfl (by omega) (by omega), ?_⟩
    have g_3 : (b2 - (gF z 31 b1.toNatClampNeg)).toInt = (b2.toInt - (gF z 31 b1.toNatClampNeg).toInt) := (a_sub rfl rfl (by omega) (by omega))
    exact hk (b2 - (gF z 31 b1.toNatClampNeg)) (by omega)
  · skip
    have f_4 : 0 ≤ (gF z 31 b1.toNatClampNeg).toInt ∧ (gF z 31 b1.toNatClampNeg).toInt ≤ 3 := ht.2 31 _
    have i_5 := i_nle rfl rfl c1
    have g_6 : (0 : Int32).toInt = 0 := by decide
    exact hk ((0 : Int32)) (by omega)

