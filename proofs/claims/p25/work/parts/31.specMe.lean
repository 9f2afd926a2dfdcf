set_option maxHeartbeats 2000000 in
theorem s_X9_must (b1 : Int32) (z : St) (P : St → Prop) (ht : TM z) (h0 : (gI z 38).toInt ≤ (gI z 36).toInt) (hk : ∀ (z2 : St), TM z2 → Same [37, 38, 39, 41, 42] [] z z2 → ((gI z2 38).toInt ≤ (gI z 36).toInt ∧ (b1.toInt = 0 → (gI z2 42).toInt = 1) ∧ ((gI z 42).toInt = 1 → (gI z2 42).toInt = 1)) → P z2) : wp_X9_must b1 z P := by
  unfold wp_X9_must
  intro K1 hK_1
  refine ⟨fun c6 => ?_, fun c6 => ?_⟩
  · skip
    have f_2 : 0 ≤ (gI z 42).toInt ∧ (gI z 42).toInt ≤ 1 := ht.1 42
    have i_3 := i_ne rfl (show (0 : Int32).toInt = 0 by decide) c6
    refine hK_1 z ?_
    refine ⟨fun c_4 => ?_, fun c_4 => ?_⟩
    · skip
      have i_6 := i_ne rfl (show (0 : Int32).toInt = 0 by decide) c_4
      have f_7 : 0 ≤ (gI z 38).toInt ∧ (gI z 38).toInt ≤ 300 := ht.1 38
      have f_8 : 0 ≤ (gI z 36).toInt ∧ (gI z 36).toInt ≤ 300 := ht.1 36
      exact hk z ht (Same.rf (z := z)) (by omega)
    · skip
      have i_9 := i_eq rfl (show (0 : Int32).toInt = 0 by decide) c_4
      have f_10 : 0 ≤ (gI z 38).toInt ∧ (gI z 38).toInt ≤ 300 := ht.1 38
      have f_11 : 0 ≤ (gI z 36).toInt ∧ (gI z 36).toInt ≤ 300 := ht.1 36
      refine s_X9_next  z _ ht (by omega) (fun z_5 tz_5 o_13 hp_12 => ?_)
      have oz_5 : Same [37, 38, 39, 41, 42] [] z z_5 := (Same.rf (z := z)).tr o_13 (by decide) (by decide)
      have f_14 : 0 ≤ (gI z_5 38).toInt ∧ (gI z_5 38).toInt ≤ 300 := tz_5.1 38
      have f_15 : 0 ≤ (gI z_5 42).toInt ∧ (gI z_5 42).toInt ≤ 1 := tz_5.1 42
      have q_16 := (o_13.fi 42 (by decide))
      exact hk z_5 tz_5 oz_5 (by omega)
  · skip
    have f_17 : 0 ≤ (gI z 42).toInt ∧ (gI z 42).toInt ≤ 1 := ht.1 42
    have i_18 := i_eq rfl (show (0 : Int32).toInt = 0 by decide) c6
    refine ⟨fun c7 => ?_, fun c7 => ?_⟩
    · skip
      have i_19 := i_ne rfl (show (0 : Int32).toInt = 0 by decide) c7
      refine hK_1 z ?_
      refine ⟨fun c_20 => ?_, fun c_20 => ?_⟩
      · skip
        have i_22 := i_ne rfl (show (0 : Int32).toInt = 0 by decide) c_20
        have f_23 : 0 ≤ (gI z 38).toInt ∧ (gI z 38).toInt ≤ 300 := ht.1 38
        have f_24 : 0 ≤ (gI z 36).toInt ∧ (gI z 36).toInt ≤ 300 := ht.1 36
        exact hk z ht (Same.rf (z := z)) (by omega)
      · skip
        have i_25 := i_eq rfl (show (0 : Int32).toInt = 0 by decide) c_20
        have f_26 : 0 ≤ (gI z 38).toInt ∧ (gI z 38).toInt ≤ 300 := ht.1 38
        have f_27 : 0 ≤ (gI z 36).toInt ∧ (gI z 36).toInt ≤ 300 := ht.1 36
        refine s_X9_next  z _ ht (by omega) (fun z_21 tz_21 o_29 hp_28 => ?_)
        have oz_21 : Same [37, 38, 39, 41, 42] [] z z_21 := (Same.rf (z := z)).tr o_29 (by decide) (by decide)
        have f_30 : 0 ≤ (gI z_21 38).toInt ∧ (gI z_21 38).toInt ≤ 300 := tz_21.1 38
        have f_31 : 0 ≤ (gI z_21 42).toInt ∧ (gI z_21 42).toInt ≤ 1 := tz_21.1 42
        have q_32 := (o_29.fi 42 (by decide))
        exact hk z_21 tz_21 oz_21 (by omega)
    · skip
      have i_33 := i_eq rfl (show (0 : Int32).toInt = 0 by decide) c7
      intro z8 ez8
      have tz8 : TM z8 := by rw [ez8]; exact Ty_wI ht (show 0 ≤ (1 : Int32).toInt ∧ (1 : Int32).toInt ≤ 1 from by rw [(show (1 : Int32).toInt = 1 by decide)]; omega)
      have oz8 : Same [37, 38, 39, 41, 42] [] z z8 := (Same.rf (z := z)).i (by decide) ez8
      intro z9 ez9
      have tz9 : TM z9 := by rw [ez9]; exact Ty_wI tz8 trivial
      have oz9 : Same [37, 38, 39, 41, 42] [] z z9 := oz8.i (by decide) ez9
      refine hK_1 z9 ?_
      refine ⟨fun c_34 => ?_, fun c_34 => ?_⟩
      · skip
        have f_36 : 0 ≤ (gI z9 42).toInt ∧ (gI z9 42).toInt ≤ 1 := tz9.1 42
        have q_37 := ((show (gI z9 42).toInt = (gI z8 42).toInt by rw [ez9]; rfl)).trans (show (gI z8 42).toInt = (1 : Int32).toInt by rw [ez8]; rfl)
        have q_38 : (1 : Int32).toInt = (1) := (show (1 : Int32).toInt = 1 by decide)
        have i_39 := i_ne rfl (show (0 : Int32).toInt = 0 by decide) c_34
        have f_40 : 0 ≤ (gI z9 38).toInt ∧ (gI z9 38).toInt ≤ 300 := tz9.1 38
        have q_41 := ((show (gI z9 38).toInt = (gI z8 38).toInt by rw [ez9]; rfl)).trans (show (gI z8 38).toInt = (gI z 38).toInt by rw [ez8]; rfl)
        have f_42 : 0 ≤ (gI z 38).toInt ∧ (gI z 38).toInt ≤ 300 := ht.1 38
        have f_43 : 0 ≤ (gI z 36).toInt ∧ (gI z 36).toInt ≤ 300 := ht.1 36
        exact hk z9 tz9 oz9 (by omega)
      · skip
        have f_44 : 0 ≤ (gI z9 42).toInt ∧ (gI z9 42).toInt ≤ 1 := tz9.1 42
        have q_45 := ((show (gI z9 42).toInt = (gI z8 42).toInt by rw [ez9]; rfl)).trans (show (gI z8 42).toInt = (1 : Int32).toInt by rw [ez8]; rfl)
        have q_46 : (1 : Int32).toInt = (1) := (show (1 : Int32).toInt = 1 by decide)
        have i_47 := i_eq rfl (show (0 : Int32).toInt = 0 by decide) c_34
        have f_48 : 0 ≤ (gI z9 38).toInt ∧ (gI z9 38).toInt ≤ 300 := tz9.1 38
        have q_49 := ((show (gI z9 38).toInt = (gI z8 38).toInt by rw [ez9]; rfl)).trans (show (gI z8 38).toInt = (gI z 38).toInt by rw [ez8]; rfl)
        have f_50 : 0 ≤ (gI z 38).toInt ∧ (gI z 38).toInt ≤ 300 := ht.1 38
        have f_51 : 0 ≤ (gI z9 36).toInt ∧ (gI z9 36).toInt ≤ 300 := tz9.1 36
        have q_52 := ((show (gI z9 36).toInt = (gI z8 36).toInt by rw [ez9]; rfl)).trans (show (gI z8 36).toInt = (gI z 36).toInt by rw [ez8]; rfl)
        have f_53 : 0 ≤ (gI z 36).toInt ∧ (gI z 36).toInt ≤ 300 := ht.1 36
        refine s_X9_next  z9 _ tz9 (by omega) (fun z_35 tz_35 o_55 hp_54 => ?_)
        have oz_35 : Same [37, 38, 39, 41, 42] [] z z_35 := oz9.tr o_55 (by decide) (by decide)
        have f_56 : 0 ≤ (gI z_35 38).toInt ∧ (gI z_35 38).toInt ≤ 300 := tz_35.1 38
        have f_57 : 0 ≤ (gI z_35 42).toInt ∧ (gI z_35 42).toInt ≤ 1 := tz_35.1 42
        have q_58 := (((o_55.fi 42 (by decide))).trans (show (gI z9 42).toInt = (gI z8 42).toInt by rw [ez9]; rfl)).trans (show (gI z8 42).toInt = (1 : Int32).toInt by rw [ez8]; rfl)
        have q_59 : (1 : Int32).toInt = (1) := (show (1 : Int32).toInt = 1 by decide)
        exact hk z_35 tz_35 oz_35 (by omega)

set_option maxHeartbeats 2000000 in
theorem s_X9_isWord (b1 : Int32) (b2 : Int32) (b3 : Int32) (b4 : Int32) (b5 : Int32) (b6 : Int32) (z : St) (P : Int32 → Prop) (ht : TM z)  (hk : ∀ r : Int32, (r = 1 ∧ (True)) ∨ (r = 0 ∧ (True)) → P r) : wp_X9_isWord b1 b2 b3 b4 b5 b6 z P := by
  unfold wp_X9_isWord
  intro x1 ex1
  intro K3 hK_1
  refine ⟨fun c15 => ?_, fun c15 => ?_⟩
  · skip
    have i_2 := i_ne rfl (show (0 : Int32).toInt = 0 by decide) c15
    refine hK_1 ((((x1 * (32 : Int64)) + (Int32.toInt64 b3)) - (96 : Int64))) ?_
    intro K_3 hK_14
    refine ⟨fun c_13 => ?_, fun c_13 => ?_⟩
    · skip
      have i_15 := i_ne rfl (show (0 : Int32).toInt = 0 by decide) c_13
      refine hK_14 (((((((x1 * (32 : Int64)) + (Int32.toInt64 b3)) - (96 : Int64)) * (32 : Int64)) + (Int32.toInt64 b4)) - (96 : Int64))) ?_
      intro K_16 hK_24
      refine ⟨fun c_23 => ?_, fun c_23 => ?_⟩
      · skip
        have i_25 := i_ne rfl (show (0 : Int32).toInt = 0 by decide) c_23
        refine hK_24 ((((((((((x1 * (32 : Int64)) + (Int32.toInt64 b3)) - (96 : Int64)) * (32 : Int64)) + (Int32.toInt64 b4)) - (96 : Int64)) * (32 : Int64)) + (Int32.toInt64 b5)) - (96 : Int64))) ?_
        intro K_26 hK_31
        refine ⟨fun c_30 => ?_, fun c_30 => ?_⟩
        · skip
          have i_32 := i_ne rfl (show (0 : Int32).toInt = 0 by decide) c_30
          refine hK_31 (((((((((((((x1 * (32 : Int64)) + (Int32.toInt64 b3)) - (96 : Int64)) * (32 : Int64)) + (Int32.toInt64 b4)) - (96 : Int64)) * (32 : Int64)) + (Int32.toInt64 b5)) - (96 : Int64)) * (32 : Int64)) + (Int32.toInt64 b6)) - (96 : Int64))) ?_
          refine ⟨fun c_33 => ?_, fun c_33 => ?_⟩
          · skip
            have i_35 := i_ne rfl (show (1 : Int32).toInt = 1 by decide) c_33
            have g_36 : (0 : Int32).toInt = 0 := by decide
            exact hk ((0 : Int32)) (Or.inr ⟨rfl, trivial⟩)
          · skip
            have i_37 := i_eq rfl (show (1 : Int32).toInt = 1 by decide) c_33
            refine ⟨fun c_34 => ?_, fun c_34 => ?_⟩
            · skip
              have g_38 : (0 : Int32).toInt = 0 := by decide
              exact hk ((0 : Int32)) (Or.inr ⟨rfl, trivial⟩)
            · skip
              have g_39 : (1 : Int32).toInt = 1 := by decide
              exact hk ((1 : Int32)) (Or.inl ⟨rfl, trivial⟩)
        · skip
          have i_40 := i_eq rfl (show (0 : Int32).toInt = 0 by decide) c_30
          refine hK_31 ((((((((((x1 * (32 : Int64)) + (Int32.toInt64 b3)) - (96 : Int64)) * (32 : Int64)) + (Int32.toInt64 b4)) - (96 : Int64)) * (32 : Int64)) + (Int32.toInt64 b5)) - (96 : Int64))) ?_
          refine ⟨fun c_41 => ?_, fun c_41 => ?_⟩
          · skip
            have i_43 := i_ne rfl (show (1 : Int32).toInt = 1 by decide) c_41
            have g_44 : (0 : Int32).toInt = 0 := by decide
            exact hk ((0 : Int32)) (Or.inr ⟨rfl, trivial⟩)
          · skip
            have i_45 := i_eq rfl (show (1 : Int32).toInt = 1 by decide) c_41
            refine ⟨fun c_42 => ?_, fun c_42 => ?_⟩
            · skip
              have g_46 : (0 : Int32).toInt = 0 := by decide
              exact hk ((0 : Int32)) (Or.inr ⟨rfl, trivial⟩)
            · skip
              have g_47 : (1 : Int32).toInt = 1 := by decide
              exact hk ((1 : Int32)) (Or.inl ⟨rfl, trivial⟩)
      · skip
        have i_48 := i_eq rfl (show (0 : Int32).toInt = 0 by decide) c_23
        refine hK_24 (((((((x1 * (32 : Int64)) + (Int32.toInt64 b3)) - (96 : Int64)) * (32 : Int64)) + (Int32.toInt64 b4)) - (96 : Int64))) ?_
        intro K_49 hK_54
        refine ⟨fun c_53 => ?_, fun c_53 => ?_⟩
        · skip
          have i_55 := i_ne rfl (show (0 : Int32).toInt = 0 by decide) c_53
          refine hK_54 ((((((((((x1 * (32 : Int64)) + (Int32.toInt64 b3)) - (96 : Int64)) * (32 : Int64)) + (Int32.toInt64 b4)) - (96 : Int64)) * (32 : Int64)) + (Int32.toInt64 b6)) - (96 : Int64))) ?_
          refine ⟨fun c_56 => ?_, fun c_56 => ?_⟩
          · skip
            have i_58 := i_ne rfl (show (1 : Int32).toInt = 1 by decide) c_56
            have g_59 : (0 : Int32).toInt = 0 := by decide
            exact hk ((0 : Int32)) (Or.inr ⟨rfl, trivial⟩)
          · skip
            have i_60 := i_eq rfl (show (1 : Int32).toInt = 1 by decide) c_56
            refine ⟨fun c_57 => ?_, fun c_57 => ?_⟩
            · skip
              have g_61 : (0 : Int32).toInt = 0 := by decide
              exact hk ((0 : Int32)) (Or.inr ⟨rfl, trivial⟩)
            · skip
              have g_62 : (1 : Int32).toInt = 1 := by decide
              exact hk ((1 : Int32)) (Or.inl ⟨rfl, trivial⟩)
        · skip
          have i_63 := i_eq rfl (show (0 : Int32).toInt = 0 by decide) c_53
          refine hK_54 (((((((x1 * (32 : Int64)) + (Int32.toInt64 b3)) - (96 : Int64)) * (32 : Int64)) + (Int32.toInt64 b4)) - (96 : Int64))) ?_
          refine ⟨fun c_64 => ?_, fun c_64 => ?_⟩
          · skip
            have i_66 := i_ne rfl (show (1 : Int32).toInt = 1 by decide) c_64
            have g_67 : (0 : Int32).toInt = 0 := by decide
            exact hk ((0 : Int32)) (Or.inr ⟨rfl, trivial⟩)
          · skip
            have i_68 := i_eq rfl (show (1 : Int32).toInt = 1 by decide) c_64
            refine ⟨fun c_65 => ?_, fun c_65 => ?_⟩
            · skip
              have g_69 : (0 : Int32).toInt = 0 := by decide
              exact hk ((0 : Int32)) (Or.inr ⟨rfl, trivial⟩)
            · skip
              have g_70 : (1 : Int32).toInt = 1 := by decide
              exact hk ((1 : Int32)) (Or.inl ⟨rfl, trivial⟩)
    · skip
      have i_71 := i_eq rfl (show (0 : Int32).toInt = 0 by decide) c_13
      refine hK_14 ((((x1 * (32 : Int64)) + (Int32.toInt64 b3)) - (96 : Int64))) ?_
      intro K_72 hK_80
      refine ⟨fun c_79 => ?_, fun c_79 => ?_⟩
      · skip
        have i_81 := i_ne rfl (show (0 : Int32).toInt = 0 by decide) c_79
        refine hK_80 (((((((x1 * (32 : Int64)) + (Int32.toInt64 b3)) - (96 : Int64)) * (32 : Int64)) + (Int32.toInt64 b5)) - (96 : Int64))) ?_
        intro K_82 hK_87
        refine ⟨fun c_86 => ?_, fun c_86 => ?_⟩
        · skip
          have i_88 := i_ne rfl (show (0 : Int32).toInt = 0 by decide) c_86
          refine hK_87 ((((((((((x1 * (32 : Int64)) + (Int32.toInt64 b3)) - (96 : Int64)) * (32 : Int64)) + (Int32.toInt64 b5)) - (96 : Int64)) * (32 : Int64)) + (Int32.toInt64 b6)) - (96 : Int64))) ?_
          refine ⟨fun c_89 => ?_, fun c_89 => ?_⟩
          · skip
            have i_91 := i_ne rfl (show (1 : Int32).toInt = 1 by decide) c_89
            have g_92 : (0 : Int32).toInt = 0 := by decide
            exact hk ((0 : Int32)) (Or.inr ⟨rfl, trivial⟩)
          · skip
            have i_93 := i_eq rfl (show (1 : Int32).toInt = 1 by decide) c_89
            refine ⟨fun c_90 => ?_, fun c_90 => ?_⟩
            · skip
              have g_94 : (0 : Int32).toInt = 0 := by decide
              exact hk ((0 : Int32)) (Or.inr ⟨rfl, trivial⟩)
            · skip
              have g_95 : (1 : Int32).toInt = 1 := by decide
              exact hk ((1 : Int32)) (Or.inl ⟨rfl, trivial⟩)
        · skip
          have i_96 := i_eq rfl (show (0 : Int32).toInt = 0 by decide) c_86
          refine hK_87 (((((((x1 * (32 : Int64)) + (Int32.toInt64 b3)) - (96 : Int64)) * (32 : Int64)) + (Int32.toInt64 b5)) - (96 : Int64))) ?_
          refine ⟨fun c_97 => ?_, fun c_97 => ?_⟩
          · skip
            have i_99 := i_ne rfl (show (1 : Int32).toInt = 1 by decide) c_97
            have g_100 : (0 : Int32).toInt = 0 := by decide
            exact hk ((0 : Int32)) (Or.inr ⟨rfl, trivial⟩)
          · skip
            have i_101 := i_eq rfl (show (1 : Int32).toInt = 1 by decide) c_97
            refine ⟨fun c_98 => ?_, fun c_98 => ?_⟩
            · skip
              have g_102 : (0 : Int32).toInt = 0 := by decide
              exact hk ((0 : Int32)) (Or.inr ⟨rfl, trivial⟩)
            · skip
              have g_103 : (1 : Int32).toInt = 1 := by decide
              exact hk ((1 : Int32)) (Or.inl ⟨rfl, trivial⟩)
      · skip
        have i_104 := i_eq rfl (show (0 : Int32).toInt = 0 by decide) c_79
        refine hK_80 ((((x1 * (32 : Int64)) + (Int32.toInt64 b3)) - (96 : Int64))) ?_
        intro K_105 hK_110
        refine ⟨fun c_109 => ?_, fun c_109 => ?_⟩
        · skip
          have i_111 := i_ne rfl (show (0 : Int32).toInt = 0 by decide) c_109
          refine hK_110 (((((((x1 * (32 : Int64)) + (Int32.toInt64 b3)) - (96 : Int64)) * (32 : Int64)) + (Int32.toInt64 b6)) - (96 : Int64))) ?_
          refine ⟨fun c_112 => ?_, fun c_112 => ?_⟩
          · skip
            have i_114 := i_ne rfl (show (1 : Int32).toInt = 1 by decide) c_112
            have g_115 : (0 : Int32).toInt = 0 := by decide
            exact hk ((0 : Int32)) (Or.inr ⟨rfl, trivial⟩)
          · skip
            have i_116 := i_eq rfl (show (1 : Int32).toInt = 1 by decide) c_112
            refine ⟨fun c_113 => ?_, fun c_113 => ?_⟩
            · skip
              have g_117 : (0 : Int32).toInt = 0 := by decide
              exact hk ((0 : Int32)) (Or.inr ⟨rfl, trivial⟩)
            · skip
              have g_118 : (1 : Int32).toInt = 1 := by decide
              exact hk ((1 : Int32)) (Or.inl ⟨rfl, trivial⟩)
        · skip
          have i_119 := i_eq rfl (show (0 : Int32).toInt = 0 by decide) c_109
          refine hK_110 ((((x1 * (32 : Int64)) + (Int32.toInt64 b3)) - (96 : Int64))) ?_
          refine ⟨fun c_120 => ?_, fun c_120 => ?_⟩
          · skip
            have i_122 := i_ne rfl (show (1 : Int32).toInt = 1 by decide) c_120
            have g_123 : (0 : Int32).toInt = 0 := by decide
            exact hk ((0 : Int32)) (Or.inr ⟨rfl, trivial⟩)
          · skip
            have i_124 := i_eq rfl (show (1 : Int32).toInt = 1 by decide) c_120
            refine ⟨fun c_121 => ?_, fun c_121 => ?_⟩
            · skip
              have g_125 : (0 : Int32).toInt = 0 := by decide
              exact hk ((0 : Int32)) (Or.inr ⟨rfl, trivial⟩)
            · skip
              have g_126 : (1 : Int32).toInt = 1 := by decide
              exact hk ((1 : Int32)) (Or.inl ⟨rfl, trivial⟩)
  · skip
    have i_127 := i_eq rfl (show (0 : Int32).toInt = 0 by decide) c15
    refine hK_1 x1 ?_
    intro K_128 hK_139
    refine ⟨fun c_138 => ?_, fun c_138 => ?_⟩
    · skip
      have i_140 := i_ne rfl (show (0 : Int32).toInt = 0 by decide) c_138
      refine hK_139 ((((x1 * (32 : Int64)) + (Int32.toInt64 b4)) - (96 : Int64))) ?_
      intro K_141 hK_149
      refine ⟨fun c_148 => ?_, fun c_148 => ?_⟩
      · skip
        have i_150 := i_ne rfl (show (0 : Int32).toInt = 0 by decide) c_148
        refine hK_149 (((((((x1 * (32 : Int64)) + (Int32.toInt64 b4)) - (96 : Int64)) * (32 : Int64)) + (Int32.toInt64 b5)) - (96 : Int64))) ?_
        intro K_151 hK_156
        refine ⟨fun c_155 => ?_, fun c_155 => ?_⟩
        · skip
          have i_157 := i_ne rfl (show (0 : Int32).toInt = 0 by decide) c_155
          refine hK_156 ((((((((((x1 * (32 : Int64)) + (Int32.toInt64 b4)) - (96 : Int64)) * (32 : Int64)) + (Int32.toInt64 b5)) - (96 : Int64)) * (32 : Int64)) + (Int32.toInt64 b6)) - (96 : Int64))) ?_
          refine ⟨fun c_158 => ?_, fun c_158 => ?_⟩
          · skip
            have i_160 := i_ne rfl (show (1 : Int32).toInt = 1 by decide) c_158
            have g_161 : (0 : Int32).toInt = 0 := by decide
            exact hk ((0 : Int32)) (Or.inr ⟨rfl, trivial⟩)
          · skip
            have i_162 := i_eq rfl (show (1 : Int32).toInt = 1 by decide) c_158
            refine ⟨fun c_159 => ?_, fun c_159 => ?_⟩
            · skip
              have g_163 : (0 : Int32).toInt = 0 := by decide
              exact hk ((0 : Int32)) (Or.inr ⟨rfl, trivial⟩)
            · skip
              have g_164 : (1 : Int32).toInt = 1 := by decide
              exact hk ((1 : Int32)) (Or.inl ⟨rfl, trivial⟩)
        · skip
          have i_165 := i_eq rfl (show (0 : Int32).toInt = 0 by decide) c_155
          refine hK_156 (((((((x1 * (32 : Int64)) + (Int32.toInt64 b4)) - (96 : Int64)) * (32 : Int64)) + (Int32.toInt64 b5)) - (96 : Int64))) ?_
          refine ⟨fun c_166 => ?_, fun c_166 => ?_⟩
          · skip
            have i_168 := i_ne rfl (show (1 : Int32).toInt = 1 by decide) c_166
            have g_169 : (0 : Int32).toInt = 0 := by decide
            exact hk ((0 : Int32)) (Or.inr ⟨rfl, trivial⟩)
          · skip
            have i_170 := i_eq rfl (show (1 : Int32).toInt = 1 by decide) c_166
            refine ⟨fun c_167 => ?_, fun c_167 => ?_⟩
            · skip
              have g_171 : (0 : Int32).toInt = 0 := by decide
              exact hk ((0 : Int32)) (Or.inr ⟨rfl, trivial⟩)
            · skip
              have g_172 : (1 : Int32).toInt = 1 := by decide
              exact hk ((1 : Int32)) (Or.inl ⟨rfl, trivial⟩)
      · skip
        have i_173 := i_eq rfl (show (0 : Int32).toInt = 0 by decide) c_148
        refine hK_149 ((((x1 * (32 : Int64)) + (Int32.toInt64 b4)) - (96 : Int64))) ?_
        intro K_174 hK_179
        refine ⟨fun c_178 => ?_, fun c_178 => ?_⟩
        · skip
          have i_180 := i_ne rfl (show (0 : Int32).toInt = 0 by decide) c_178
          refine hK_179 (((((((x1 * (32 : Int64)) + (Int32.toInt64 b4)) - (96 : Int64)) * (32 : Int64)) + (Int32.toInt64 b6)) - (96 : Int64))) ?_
          refine ⟨fun c_181 => ?_, fun c_181 => ?_⟩
          · skip
            have i_183 := i_ne rfl (show (1 : Int32).toInt = 1 by decide) c_181
            have g_184 : (0 : Int32).toInt = 0 := by decide
            exact hk ((0 : Int32)) (Or.inr ⟨rfl, trivial⟩)
          · skip
            have i_185 := i_eq rfl (show (1 : Int32).toInt = 1 by decide) c_181
            refine ⟨fun c_182 => ?_, fun c_182 => ?_⟩
            · skip
              have g_186 : (0 : Int32).toInt = 0 := by decide
              exact hk ((0 : Int32)) (Or.inr ⟨rfl, trivial⟩)
            · skip
              have g_187 : (1 : Int32).toInt = 1 := by decide
              exact hk ((1 : Int32)) (Or.inl ⟨rfl, trivial⟩)
        · skip
          have i_188 := i_eq rfl (show (0 : Int32).toInt = 0 by decide) c_178
          refine hK_179 ((((x1 * (32 : Int64)) + (Int32.toInt64 b4)) - (96 : Int64))) ?_
          refine ⟨fun c_189 => ?_, fun c_189 => ?_⟩
          · skip
            have i_191 := i_ne rfl (show (1 : Int32).toInt = 1 by decide) c_189
            have g_192 : (0 : Int32).toInt = 0 := by decide
            exact hk ((0 : Int32)) (Or.inr ⟨rfl, trivial⟩)
          · skip
            have i_193 := i_eq rfl (show (1 : Int32).toInt = 1 by decide) c_189
            refine ⟨fun c_190 => ?_, fun c_190 => ?_⟩
            · skip
              have g_194 : (0 : Int32).toInt = 0 := by decide
              exact hk ((0 : Int32)) (Or.inr ⟨rfl, trivial⟩)
            · skip
              have g_195 : (1 : Int32).toInt = 1 := by decide
              exact hk ((1 : Int32)) (Or.inl ⟨rfl, trivial⟩)
    · skip
      have i_196 := i_eq rfl (show (0 : Int32).toInt = 0 by decide) c_138
      refine hK_139 x1 ?_
      intro K_197 hK_205
      refine ⟨fun c_204 => ?_, fun c_204 => ?_⟩
      · skip
        have i_206 := i_ne rfl (show (0 : Int32).toInt = 0 by decide) c_204
        refine hK_205 ((((x1 * (32 : Int64)) + (Int32.toInt64 b5)) - (96 : Int64))) ?_
        intro K_207 hK_212
        refine ⟨fun c_211 => ?_, fun c_211 => ?_⟩
        · skip
          have i_213 := i_ne rfl (show (0 : Int32).toInt = 0 by decide) c_211
          refine hK_212 (((((((x1 * (32 : Int64)) + (Int32.toInt64 b5)) - (96 : Int64)) * (32 : Int64)) + (Int32.toInt64 b6)) - (96 : Int64))) ?_
          refine ⟨fun c_214 => ?_, fun c_214 => ?_⟩
          · skip
            have i_216 := i_ne rfl (show (1 : Int32).toInt = 1 by decide) c_214
            have g_217 : (0 : Int32).toInt = 0 := by decide
            exact hk ((0 : Int32)) (Or.inr ⟨rfl, trivial⟩)
          · skip
            have i_218 := i_eq rfl (show (1 : Int32).toInt = 1 by decide) c_214
            refine ⟨fun c_215 => ?_, fun c_215 => ?_⟩
            · skip
              have g_219 : (0 : Int32).toInt = 0 := by decide
              exact hk ((0 : Int32)) (Or.inr ⟨rfl, trivial⟩)
            · skip
              have g_220 : (1 : Int32).toInt = 1 := by decide
              exact hk ((1 : Int32)) (Or.inl ⟨rfl, trivial⟩)
        · skip
          have i_221 := i_eq rfl (show (0 : Int32).toInt = 0 by decide) c_211
          refine hK_212 ((((x1 * (32 : Int64)) + (Int32.toInt64 b5)) - (96 : Int64))) ?_
          refine ⟨fun c_222 => ?_, fun c_222 => ?_⟩
          · skip
            have i_224 := i_ne rfl (show (1 : Int32).toInt = 1 by decide) c_222
            have g_225 : (0 : Int32).toInt = 0 := by decide
            exact hk ((0 : Int32)) (Or.inr ⟨rfl, trivial⟩)
          · skip
            have i_226 := i_eq rfl (show (1 : Int32).toInt = 1 by decide) c_222
            refine ⟨fun c_223 => ?_, fun c_223 => ?_⟩
            · skip
              have g_227 : (0 : Int32).toInt = 0 := by decide
              exact hk ((0 : Int32)) (Or.inr ⟨rfl, trivial⟩)
            · skip
              have g_228 : (1 : Int32).toInt = 1 := by decide
              exact hk ((1 : Int32)) (Or.inl ⟨rfl, trivial⟩)
      · skip
        have i_229 := i_eq rfl (show (0 : Int32).toInt = 0 by decide) c_204
        refine hK_205 x1 ?_
        intro K_230 hK_235
        refine ⟨fun c_234 => ?_, fun c_234 => ?_⟩
        · skip
          have i_236 := i_ne rfl (show (0 : Int32).toInt = 0 by decide) c_234
          refine hK_235 ((((x1 * (32 : Int64)) + (Int32.toInt64 b6)) - (96 : Int64))) ?_
          refine ⟨fun c_237 => ?_, fun c_237 => ?_⟩
          · skip
            have i_239 := i_ne rfl (show (1 : Int32).toInt = 1 by decide) c_237
            have g_240 : (0 : Int32).toInt = 0 := by decide
            exact hk ((0 : Int32)) (Or.inr ⟨rfl, trivial⟩)
          · skip
            have i_241 := i_eq rfl (show (1 : Int32).toInt = 1 by decide) c_237
            refine ⟨fun c_238 => ?_, fun c_238 => ?_⟩
            · skip
              have g_242 : (0 : Int32).toInt = 0 := by decide
              exact hk ((0 : Int32)) (Or.inr ⟨rfl, trivial⟩)
            · skip
              have g_243 : (1 : Int32).toInt = 1 := by decide
              exact hk ((1 : Int32)) (Or.inl ⟨rfl, trivial⟩)
        · skip
          have i_244 := i_eq rfl (show (0 : Int32).toInt = 0 by decide) c_234
          refine hK_235 x1 ?_
          refine ⟨fun c_245 => ?_, fun c_245 => ?_⟩
          · skip
            have i_247 := i_ne rfl (show (1 : Int32).toInt = 1 by decide) c_245
            have g_248 : (0 : Int32).toInt = 0 := by decide
            exact hk ((0 : Int32)) (Or.inr ⟨rfl, trivial⟩)
          · skip
            have i_249 := i_eq rfl (show (1 : Int32).toInt = 1 by decide) c_245
            refine ⟨fun c_246 => ?_, fun c_246 => ?_⟩
            · skip
              have g_250 : (0 : Int32).toInt = 0 := by decide
              exact hk ((0 : Int32)) (Or.inr ⟨rfl, trivial⟩)
            · skip
              have g_251 : (1 : Int32).toInt = 1 := by decide
              exact hk ((1 : Int32)) (Or.inl ⟨rfl, trivial⟩)

set_option maxHeartbeats 2000000 in
theorem s_X9_number (b1 : Int64) (z : St) (P : Int32 → St → Prop) (ht : TM z) (h0 : (gI z 38).toInt ≤ (gI z 36).toInt) (hk : ∀ (r : Int32) (z2 : St), TM z2 → Same [37, 38, 39, 41, 42] [] z z2 → ((gI z2 38).toInt ≤ (gI z 36).toInt ∧ ((gI z 42).toInt = 1 → (gI z2 42).toInt = 1)) → P r z2) : wp_X9_number b1 z P := by
  unfold wp_X9_number
  intro x1 ex1
  have ix1 : x1.toInt = (Int64.toInt32 (gJ z 40)).toInt := by rw [ex1]
  intro K3 hK_1
  intro K6 hK_2
  refine ⟨fun c7 => ?_, fun c7 => ?_⟩
  · skip
    have i_3 := i_ne rfl (show (2 : Int32).toInt = 2 by decide) c7
    refine hK_2  ?_
    refine hK_1 ((0 : Int32)) ?_
    have g_5 : (0 : Int32).toInt = 0 := by decide
    have f_6 : 0 ≤ (gI z 38).toInt ∧ (gI z 38).toInt ≤ 300 := ht.1 38
    have f_7 : 0 ≤ (gI z 36).toInt ∧ (gI z 36).toInt ≤ 300 := ht.1 36
    refine s_X9_must ((0 : Int32)) z _ ht (by omega) (fun z_4 tz_4 o_9 hp_8 => ?_)
    have oz_4 : Same [37, 38, 39, 41, 42] [] z z_4 := (Same.rf (z := z)).tr o_9 (by decide) (by decide)
    have f_10 : 0 ≤ (gI z_4 38).toInt ∧ (gI z_4 38).toInt ≤ 300 := tz_4.1 38
    have f_11 : 0 ≤ (gI z_4 42).toInt ∧ (gI z_4 42).toInt ≤ 1 := tz_4.1 42
    have f_12 : 0 ≤ (gI z 42).toInt ∧ (gI z 42).toInt ≤ 1 := ht.1 42
    exact hk x1 z_4 tz_4 oz_4 (by omega)
  · skip
    have i_13 := i_eq rfl (show (2 : Int32).toInt = 2 by decide) c7
    refine ⟨fun c8 => ?_, fun c8 => ?_⟩
    · skip
      refine hK_2  ?_
      refine hK_1 ((0 : Int32)) ?_
      have g_15 : (0 : Int32).toInt = 0 := by decide
      have f_16 : 0 ≤ (gI z 38).toInt ∧ (gI z 38).toInt ≤ 300 := ht.1 38
      have f_17 : 0 ≤ (gI z 36).toInt ∧ (gI z 36).toInt ≤ 300 := ht.1 36
      refine s_X9_must ((0 : Int32)) z _ ht (by omega) (fun z_14 tz_14 o_19 hp_18 => ?_)
      have oz_14 : Same [37, 38, 39, 41, 42] [] z z_14 := (Same.rf (z := z)).tr o_19 (by decide) (by decide)
      have f_20 : 0 ≤ (gI z_14 38).toInt ∧ (gI z_14 38).toInt ≤ 300 := tz_14.1 38
      have f_21 : 0 ≤ (gI z_14 42).toInt ∧ (gI z_14 42).toInt ≤ 1 := tz_14.1 42
      have f_22 : 0 ≤ (gI z 42).toInt ∧ (gI z 42).toInt ≤ 1 := ht.1 42
      exact hk x1 z_14 tz_14 oz_14 (by omega)
    · skip
      refine hK_1 ((1 : Int32)) ?_
      have g_24 : (1 : Int32).toInt = 1 := by decide
      have f_25 : 0 ≤ (gI z 38).toInt ∧ (gI z 38).toInt ≤ 300 := ht.1 38
      have f_26 : 0 ≤ (gI z 36).toInt ∧ (gI z 36).toInt ≤ 300 := ht.1 36
      refine s_X9_must ((1 : Int32)) z _ ht (by omega) (fun z_23 tz_23 o_28 hp_27 => ?_)
      have oz_23 : Same [37, 38, 39, 41, 42] [] z z_23 := (Same.rf (z := z)).tr o_28 (by decide) (by decide)
      have f_29 : 0 ≤ (gI z_23 38).toInt ∧ (gI z_23 38).toInt ≤ 300 := tz_23.1 38
      have f_30 : 0 ≤ (gI z_23 42).toInt ∧ (gI z_23 42).toInt ≤ 1 := tz_23.1 42
      have f_31 : 0 ≤ (gI z 42).toInt ∧ (gI z 42).toInt ≤ 1 := ht.1 42
      exact hk x1 z_23 tz_23 oz_23 (by omega)

