def wp_X9_of (b1 : Int32) (b2 : Int32) (z : St) (P : Int32 → St → Prop) : Prop :=
  (∀ z1 : St, z1 = wI z 0 ((0 : Int32)) → (wp_X9_isJob b1 z1 (fun r3 => (((¬ r3 = 0) → ((b2 = 0 → (vp_in b1 16 ∧ P (gF z1 6 b1.toNatClampNeg) z1)) ∧ (b2 = 1 → (vp_in b1 16 ∧ P (gF z1 7 b1.toNatClampNeg) z1)) ∧ (b2 = 2 → (vp_in b1 16 ∧ P (gF z1 8 b1.toNatClampNeg) z1)) ∧ (b2 = 3 → (vp_in b1 16 ∧ P (gF z1 9 b1.toNatClampNeg) z1)) ∧ (b2 = 4 → (vp_in b1 16 ∧ P (gF z1 11 b1.toNatClampNeg) z1)) ∧ (b2 = 5 → (vp_in b1 16 ∧ (((¬ (gF z1 11 b1.toNatClampNeg) = 0) → (vp_in b1 16 ∧ P (gF z1 12 b1.toNatClampNeg) z1)) ∧ ((gF z1 11 b1.toNatClampNeg) = 0 → P ((-1 : Int32)) z1)))) ∧ ((b2.toInt < 0 ∨ 5 < b2.toInt) → (vp_in b1 16 ∧ (wp_X9_in (Int32.toInt64 b2) ((10 : Int64)) (((9 : Int64)) + (Int32.toInt64 (gF z1 9 b1.toNatClampNeg))) z1 (fun r8 => (((r8 = 0) → P ((-1 : Int32)) z1) ∧ (¬ (r8 = 0) → (vp_in (((((4 : Int32)) * b1) + b2) - ((10 : Int32))) 64 ∧ P (gF z1 10 (((((4 : Int32)) * b1) + b2) - ((10 : Int32))).toNatClampNeg) z1))))))))) ∧ (r3 = 0 → P ((-1 : Int32)) z1)))))
set_option maxHeartbeats 4000000 in
set_option maxRecDepth 100000 in
theorem m_X9_of (l : Launch) (D : va_G) (t : Ty3) (a : Nat → Nat) (b1 : Int32) (b2 : Int32) (z : St) (P : Int32 → St → Prop) (hw : wp_X9_of b1 b2 z P) : CtI l D t yX9_of cX9_of 3 (some .int) 2 (wM t a) (wM t a z) [.ref (a 0), .int b1, .int b2] P := by
  refine ctI_of (by decide) (Nat.le_of_ble_eq_true rfl) ?_
  intro p e s m args below meth c A ls C hr hlk h hl
  have hl : lv_has ls 3 [(0, .ref (a 0)), (1, .int b1), (2, .int b2)] := hl
  unfold wp_X9_of at hw
  refine lv_aload_n (pc := 0) C.1 C.2.1 dX9_of_0 rfl (lv_at hl 0 rfl) ?_
  refine lv_iconst (v := 0) (pc := 1) C.1 C.2.1 dX9_of_1 (by decide) ?_
  refine PM_X9_131_0 (pc := 2) C h dX9_of_2 (fun z1 ez1 H locs h => ?_)
  have hw := hw z1 ez1
  refine lv_aload_n (pc := 5) C.1 C.2.1 dX9_of_5 rfl (lv_at hl 0 rfl) ?_
  refine lv_iload_n (pc := 6) C.1 C.2.1 dX9_of_6 rfl (lv_at hl 1 rfl) ?_
  refine cl_vi (pc := 7) (As := [.int b1]) (rest := []) C h (m_X9_isJob l D t a b1 z1 _ hw) mw_X9_isJob lm_X9_193 md_X9_isJob rcM_0 ⟨by decide, by decide⟩ ⟨Nat.zero_le _, Nat.zero_le _⟩ hl.1 rfl (Nat.le_of_ble_eq_true rfl) dX9_of_7 (fun r3 z2 H locs hw h => ?_)
  rw [hw.1] at h
  have hw := hw.2
  refine lv_if_ne (tgt := 15) (pc := 10) C.1 C.2.1 dX9_of_10 (by decide) (fun c4 => ?_) (fun c4 => ?_)
  · have hw := hw.1 c4
    refine lv_iload_n (pc := 15) C.1 C.2.1 dX9_of_15 rfl (lv_at hl 2 rfl) ?_
    by_cases c5_0 : b2 = 0
    · have hw := hw.1 c5_0
      refine lv_tableIn (off := 40) (tgt := 56) (pc := 16) C.1 C.2.1 dX9_of_16 (by rw [c5_0]; decide) (by rw [c5_0]; decide) (by rw [c5_0]; rfl) (by decide) ?_
      refine lv_aload_n (pc := 56) C.1 C.2.1 dX9_of_56 rfl (lv_at hl 0 rfl) ?_
      refine GM_X9_33_0 (pc := 57) C h dX9_of_57 ?_
      refine lv_iload_n (pc := 60) C.1 C.2.1 dX9_of_60 rfl (lv_at hl 1 rfl) ?_
      refine ldM_6 (pc := 61) C h hw.1 dX9_of_61 ?_
      have hw := hw.2
      exact rt_i (pc := 62) C hr hlk h hw dX9_of_62
    by_cases c5_1 : b2 = 1
    · have hw := hw.2.1 c5_1
      refine lv_tableIn (off := 47) (tgt := 63) (pc := 16) C.1 C.2.1 dX9_of_16 (by rw [c5_1]; decide) (by rw [c5_1]; decide) (by rw [c5_1]; rfl) (by decide) ?_
      refine lv_aload_n (pc := 63) C.1 C.2.1 dX9_of_63 rfl (lv_at hl 0 rfl) ?_
      refine GM_X9_36_0 (pc := 64) C h dX9_of_64 ?_
      refine lv_iload_n (pc := 67) C.1 C.2.1 dX9_of_67 rfl (lv_at hl 1 rfl) ?_
      refine ldM_7 (pc := 68) C h hw.1 dX9_of_68 ?_
      have hw := hw.2
      exact rt_i (pc := 69) C hr hlk h hw dX9_of_69
    by_cases c5_2 : b2 = 2
    · have hw := hw.2.2.1 c5_2
      refine lv_tableIn (off := 54) (tgt := 70) (pc := 16) C.1 C.2.1 dX9_of_16 (by rw [c5_2]; decide) (by rw [c5_2]; decide) (by rw [c5_2]; rfl) (by decide) ?_
      refine lv_aload_n (pc := 70) C.1 C.2.1 dX9_of_70 rfl (lv_at hl 0 rfl) ?_
      refine GM_X9_39_0 (pc := 71) C h dX9_of_71 ?_
      refine lv_iload_n (pc := 74) C.1 C.2.1 dX9_of_74 rfl (lv_at hl 1 rfl) ?_
      refine ldM_8 (pc := 75) C h hw.1 dX9_of_75 ?_
      have hw := hw.2
      exact rt_i (pc := 76) C hr hlk h hw dX9_of_76
    by_cases c5_3 : b2 = 3
    · have hw := hw.2.2.2.1 c5_3
      refine lv_tableIn (off := 61) (tgt := 77) (pc := 16) C.1 C.2.1 dX9_of_16 (by rw [c5_3]; decide) (by rw [c5_3]; decide) (by rw [c5_3]; rfl) (by decide) ?_
      refine lv_aload_n (pc := 77) C.1 C.2.1 dX9_of_77 rfl (lv_at hl 0 rfl) ?_
      refine GM_X9_42_0 (pc := 78) C h dX9_of_78 ?_
      refine lv_iload_n (pc := 81) C.1 C.2.1 dX9_of_81 rfl (lv_at hl 1 rfl) ?_
      refine ldM_9 (pc := 82) C h hw.1 dX9_of_82 ?_
      have hw := hw.2
      exact rt_i (pc := 83) C hr hlk h hw dX9_of_83
    by_cases c5_4 : b2 = 4
    · have hw := hw.2.2.2.2.1 c5_4
      refine lv_tableIn (off := 68) (tgt := 84) (pc := 16) C.1 C.2.1 dX9_of_16 (by rw [c5_4]; decide) (by rw [c5_4]; decide) (by rw [c5_4]; rfl) (by decide) ?_
      refine lv_aload_n (pc := 84) C.1 C.2.1 dX9_of_84 rfl (lv_at hl 0 rfl) ?_
      refine GM_X9_48_0 (pc := 85) C h dX9_of_85 ?_
      refine lv_iload_n (pc := 88) C.1 C.2.1 dX9_of_88 rfl (lv_at hl 1 rfl) ?_
      refine ldM_11 (pc := 89) C h hw.1 dX9_of_89 ?_
      have hw := hw.2
      exact rt_i (pc := 90) C hr hlk h hw dX9_of_90
    by_cases c5_5 : b2 = 5
    · have hw := hw.2.2.2.2.2.1 c5_5
      refine lv_tableIn (off := 75) (tgt := 91) (pc := 16) C.1 C.2.1 dX9_of_16 (by rw [c5_5]; decide) (by rw [c5_5]; decide) (by rw [c5_5]; rfl) (by decide) ?_
      refine lv_aload_n (pc := 91) C.1 C.2.1 dX9_of_91 rfl (lv_at hl 0 rfl) ?_
      refine GM_X9_48_0 (pc := 92) C h dX9_of_92 ?_
      refine lv_iload_n (pc := 95) C.1 C.2.1 dX9_of_95 rfl (lv_at hl 1 rfl) ?_
      refine ldM_11 (pc := 96) C h hw.1 dX9_of_96 ?_
      have hw := hw.2
      refine lv_if_ne (tgt := 104) (pc := 97) C.1 C.2.1 dX9_of_97 (by decide) (fun c6 => ?_) (fun c6 => ?_)
      · have hw := hw.1 c6
        refine lv_aload_n (pc := 104) C.1 C.2.1 dX9_of_104 rfl (lv_at hl 0 rfl) ?_
        refine GM_X9_51_0 (pc := 105) C h dX9_of_105 ?_
        refine lv_iload_n (pc := 108) C.1 C.2.1 dX9_of_108 rfl (lv_at hl 1 rfl) ?_
        refine ldM_12 (pc := 109) C h hw.1 dX9_of_109 ?_
        have hw := hw.2
        exact rt_i (pc := 110) C hr hlk h hw dX9_of_110
      · have hw := hw.2 c6
        refine lv_iconst (v := -1) (pc := 100) C.1 C.2.1 dX9_of_100 (by decide) ?_
        refine lv_goto (tgt := 110) (pc := 101) C.1 C.2.1 dX9_of_101 (by decide) ?_
        exact rt_i (pc := 110) C hr hlk h hw dX9_of_110
    have nc5_0 := lv_neT (a := 0) c5_0 (by decide)
    have nc5_1 := lv_neT (a := 1) c5_1 (by decide)
    have nc5_2 := lv_neT (a := 2) c5_2 (by decide)
    have nc5_3 := lv_neT (a := 3) c5_3 (by decide)
    have nc5_4 := lv_neT (a := 4) c5_4 (by decide)
    have nc5_5 := lv_neT (a := 5) c5_5 (by decide)
    have hdc5 : b2.toInt < 0 ∨ 5 < b2.toInt := by omega
    have hw := hw.2.2.2.2.2.2 hdc5
    refine lv_tableOut (tgt := 111) (pc := 16) C.1 C.2.1 dX9_of_16 hdc5 (by decide) ?_
    refine lv_iload_n (pc := 111) C.1 C.2.1 dX9_of_111 rfl (lv_at hl 2 rfl) ?_
    refine lv_i2l (pc := 112) C.1 C.2.1 dX9_of_112 rfl ?_
    refine lv_ldc2 (pc := 113) C.1 C.2.1 C.2.2.2.1 (C.2.2.2.2 _ lc_X9_196) dX9_of_113 ?_
    refine lv_ldc2 (pc := 116) C.1 C.2.1 C.2.2.2.1 (C.2.2.2.2 _ lc_X9_198) dX9_of_116 ?_
    refine lv_aload_n (pc := 119) C.1 C.2.1 dX9_of_119 rfl (lv_at hl 0 rfl) ?_
    refine GM_X9_42_0 (pc := 120) C h dX9_of_120 ?_
    refine lv_iload_n (pc := 123) C.1 C.2.1 dX9_of_123 rfl (lv_at hl 1 rfl) ?_
    refine ldM_9 (pc := 124) C h hw.1 dX9_of_124 ?_
    have hw := hw.2
    refine lv_i2l (pc := 125) C.1 C.2.1 dX9_of_125 rfl ?_
    refine lv_ladd (pc := 126) C.1 C.2.1 dX9_of_126 ?_
    refine cl_si (pc := 127) (As := [.long (Int32.toInt64 b2), .long ((10 : Int64)), .long (((9 : Int64)) + (Int32.toInt64 (gF z1 9 b1.toNatClampNeg)))]) (rest := []) C h (m_X9_in l D t a (Int32.toInt64 b2) ((10 : Int64)) (((9 : Int64)) + (Int32.toInt64 (gF z1 9 b1.toNatClampNeg))) z1 _ hw) mw_X9_in lm_X9_139 md_X9_in ⟨by decide, by decide⟩ ⟨Nat.zero_le _, Nat.zero_le _⟩ hl.1 rfl (Nat.le_of_ble_eq_true rfl) dX9_of_127 (fun r8 z7 H locs hw h => ?_)
    rw [hw.1] at h
    have hw := hw.2
    refine lv_if_eq (tgt := 149) (pc := 130) C.1 C.2.1 dX9_of_130 (by decide) (fun c9 => ?_) (fun c9 => ?_)
    · have hw := hw.1 c9
      refine lv_iconst (v := -1) (pc := 149) C.1 C.2.1 dX9_of_149 (by decide) ?_
      exact rt_i (pc := 150) C hr hlk h hw dX9_of_150
    · have hw := hw.2 c9
      refine lv_aload_n (pc := 133) C.1 C.2.1 dX9_of_133 rfl (lv_at hl 0 rfl) ?_
      refine GM_X9_45_0 (pc := 134) C h dX9_of_134 ?_
      refine lv_iconst (v := 4) (pc := 137) C.1 C.2.1 dX9_of_137 (by decide) ?_
      refine lv_iload_n (pc := 138) C.1 C.2.1 dX9_of_138 rfl (lv_at hl 1 rfl) ?_
      refine lv_imul (pc := 139) C.1 C.2.1 dX9_of_139 ?_
      refine lv_iload_n (pc := 140) C.1 C.2.1 dX9_of_140 rfl (lv_at hl 2 rfl) ?_
      refine lv_iadd (pc := 141) C.1 C.2.1 dX9_of_141 ?_
      refine lv_bipush (v := 10) (pc := 142) C.1 C.2.1 dX9_of_142 (by decide) ?_
      refine lv_isub (pc := 144) C.1 C.2.1 dX9_of_144 ?_
      refine ldM_10 (pc := 145) C h hw.1 dX9_of_145 ?_
      have hw := hw.2
      refine lv_goto (tgt := 150) (pc := 146) C.1 C.2.1 dX9_of_146 (by decide) ?_
      exact rt_i (pc := 150) C hr hlk h hw dX9_of_150
  · have hw := hw.2 c4
    refine lv_iconst (v := -1) (pc := 13) C.1 C.2.1 dX9_of_13 (by decide) ?_
    exact rt_i (pc := 14) C hr hlk h hw dX9_of_14

def wp_X9_isQuiet (b1 : Int32) (b2 : Int32) (z : St) (P : Int32 → Prop) : Prop :=
  (∀ x1 : Int32, x1 = b2 - b2 / ((24 : Int32)) * ((24 : Int32)) → (∀ K4 : Int32 → Int32 → Prop, (∀ (v2 : Int32) (v3 : Int32), ((((gI z 22) ≤ v3) → ((v2 = 0 ∨ v2 = 1) ∧ P v2)) ∧ (¬ ((gI z 22) ≤ v3) → (vp_in v3 20 ∧ (∀ K7 : Int32 → Prop, (∀ (v6 : Int32), (∀ x8 : Int32, x8 = v3 + (1) → K4 v6 x8) → K7 v6) → (((¬ (gF z 14 v3.toNatClampNeg) = 0) → K7 v2) ∧ ((gF z 14 v3.toNatClampNeg) = 0 → (vp_in v3 20 ∧ (((¬ (gF z 15 v3.toNatClampNeg) = b1) → K7 v2) ∧ ((gF z 15 v3.toNatClampNeg) = b1 → (∀ K12 : Int32 → Prop, (∀ (s11 : Int32), K7 s11 → K12 s11) → (∀ K13 : Prop, (K12 ((1 : Int32)) → K13) → (((¬ v2 = 0) → K13) ∧ (v2 = 0 → (vp_in v3 20 ∧ (vp_in v3 20 ∧ (∀ K15 : Prop, (K12 ((0 : Int32)) → K15) → ((((gF z 17 v3.toNatClampNeg) < (gF z 16 v3.toNatClampNeg)) → (vp_in v3 20 ∧ ((((gF z 16 v3.toNatClampNeg) ≤ x1) → K13) ∧ (¬ ((gF z 16 v3.toNatClampNeg) ≤ x1) → (vp_in v3 20 ∧ ((((gF z 17 v3.toNatClampNeg) < x1) → K15) ∧ (¬ ((gF z 17 v3.toNatClampNeg) < x1) → K13))))))) ∧ (¬ ((gF z 17 v3.toNatClampNeg) < (gF z 16 v3.toNatClampNeg)) → (vp_in v3 20 ∧ (vp_in v3 20 ∧ (wp_X9_in (Int32.toInt64 x1) (Int32.toInt64 (gF z 16 v3.toNatClampNeg)) (Int32.toInt64 (gF z 17 v3.toNatClampNeg)) z (fun r20 => (((r20 = 0) → K15) ∧ (¬ (r20 = 0) → K13)))))))))))))))))))))))) → K4 v2 v3) → K4 ((0 : Int32)) ((0 : Int32))))
set_option maxHeartbeats 4000000 in
set_option maxRecDepth 100000 in
theorem m_X9_isQuiet (l : Launch) (D : va_G) (t : Ty3) (a : Nat → Nat) (b1 : Int32) (b2 : Int32) (z : St) (P : Int32 → Prop) (hw : wp_X9_isQuiet b1 b2 z P) : CtI l D t yX9_isQuiet cX9_isQuiet 6 (some .boolean) 1 (wM t a) (wM t a z) [.ref (a 0), .int b1, .int b2] (fun rr zz => zz = z ∧ P rr) := by
  refine ctI_of (by decide) (Nat.le_of_ble_eq_true rfl) ?_
  intro p e s m args below meth c A ls C hr hlk h hl
  have hl : lv_has ls 6 [(0, .ref (a 0)), (1, .int b1), (2, .int b2)] := hl
  unfold wp_X9_isQuiet at hw
  refine lv_iconst (v := 0) (pc := 0) C.1 C.2.1 dX9_isQuiet_0 (by decide) ?_
  refine lv_istore_n (lv' := [(3, .int ((0 : Int32))), (0, .ref (a 0)), (1, .int b1), (2, .int b2)]) (pc := 1) C.1 C.2.1 dX9_isQuiet_1 rfl hl (by decide) rfl (fun ls hl => ?_)
  refine lv_iload_n (pc := 2) C.1 C.2.1 dX9_isQuiet_2 rfl (lv_at hl 3 rfl) ?_
  refine lv_bipush (v := 24) (pc := 3) C.1 C.2.1 dX9_isQuiet_3 (by decide) ?_
  refine lv_irem (pc := 5) C.1 C.2.1 dX9_isQuiet_5 (by decide) ?_
  refine lv_topi (fun x1 ex1 => ?_)
  have hw := hw x1 ex1
  refine lv_istore (lv' := [(4, .int x1), (3, .int ((0 : Int32))), (0, .ref (a 0)), (1, .int b1), (2, .int b2)]) (pc := 6) C.1 C.2.1 dX9_isQuiet_6 hl (by decide) rfl (fun ls hl => ?_)
  refine lv_iconst (v := 0) (pc := 8) C.1 C.2.1 dX9_isQuiet_8 (by decide) ?_
  have hw := hw (fun (v2 : Int32) (v3 : Int32) => ∀ (H : Heap) (locs : List Loc) (ls : Array Slot), wd D t A s (wM t a z) H locs → lv_has ls 6 [(0, .ref (a 0)), (1, .int b1), (3, .int v2), (4, .int x1), (5, .int v3)] → W p l e (rmd 1) s m args below meth c H locs 0 0 (QI D t A (wM t a) (fun rr zz => zz = z ∧ P rr) below args s) (F0 m 11 ls [])) (by
      intro v2 v3 hw H locs ls h hl
      refine lv_iload (pc := 11) C.1 C.2.1 dX9_isQuiet_11 (lv_at hl 4 rfl) ?_
      refine lv_aload_n (pc := 13) C.1 C.2.1 dX9_isQuiet_13 rfl (lv_at hl 0 rfl) ?_
      refine GM_X9_207_0 (pc := 14) C h dX9_isQuiet_14 ?_
      refine lv_icmp_ge (tgt := 126) (pc := 17) C.1 C.2.1 dX9_isQuiet_17 (by decide) (fun c5 => ?_) (fun c5 => ?_)
      · have hw := hw.1 c5
        refine lv_iload_n (pc := 126) C.1 C.2.1 dX9_isQuiet_126 rfl (lv_at hl 2 rfl) ?_
        exact rt_z (pc := 127) C hr hlk h hw.1 ⟨rfl, hw.2⟩ dX9_isQuiet_127
      · have hw := hw.2 c5
        refine lv_aload_n (pc := 20) C.1 C.2.1 dX9_isQuiet_20 rfl (lv_at hl 0 rfl) ?_
        refine GM_X9_57_0 (pc := 21) C h dX9_isQuiet_21 ?_
        refine lv_iload (pc := 24) C.1 C.2.1 dX9_isQuiet_24 (lv_at hl 4 rfl) ?_
        refine ldM_14 (pc := 26) C h hw.1 dX9_isQuiet_26 ?_
        have hw := hw.2
        have hw := hw (fun (v6 : Int32) => ∀ (H : Heap) (locs : List Loc) (ls : Array Slot), wd D t A s (wM t a z) H locs → lv_has ls 6 [(0, .ref (a 0)), (1, .int b1), (3, .int v6), (4, .int x1), (5, .int v3)] → W p l e (rmd 1) s m args below meth c H locs 0 0 (QI D t A (wM t a) (fun rr zz => zz = z ∧ P rr) below args s) (F0 m 120 ls [])) (by
            intro v6 hw H locs ls h hl
            obtain ⟨x8, ex8⟩ : ∃ y : Int32, y = v3 + (1) := ⟨_, rfl⟩
            have hw := hw x8 ex8
            refine lv_iinc (v := x8) (lv' := [(5, .int x8), (0, .ref (a 0)), (1, .int b1), (3, .int v6), (4, .int x1)]) (pc := 120) C.1 C.2.1 dX9_isQuiet_120 hl (k := 4) rfl (by rw [ex8]; rfl) (by decide) rfl (fun ls hl => ?_)
            refine lv_goto (tgt := 11) (pc := 123) C.1 C.2.1 dX9_isQuiet_123 (by decide) ?_
            exact hw _ _ _ h (lv_sub hl [1, 2, 3, 4, 0] rfl))
        refine lv_if_ne (tgt := 120) (pc := 27) C.1 C.2.1 dX9_isQuiet_27 (by decide) (fun c9 => ?_) (fun c9 => ?_)
        · have hw := hw.1 c9
          exact hw _ _ _ h (lv_sub hl [0, 1, 2, 3, 4] rfl)
        · have hw := hw.2 c9
          refine lv_aload_n (pc := 30) C.1 C.2.1 dX9_isQuiet_30 rfl (lv_at hl 0 rfl) ?_
          refine GM_X9_60_0 (pc := 31) C h dX9_isQuiet_31 ?_
          refine lv_iload (pc := 34) C.1 C.2.1 dX9_isQuiet_34 (lv_at hl 4 rfl) ?_
          refine ldM_15 (pc := 36) C h hw.1 dX9_isQuiet_36 ?_
          have hw := hw.2
          refine lv_iload_n (pc := 37) C.1 C.2.1 dX9_isQuiet_37 rfl (lv_at hl 1 rfl) ?_
          refine lv_icmp_ne (tgt := 120) (pc := 38) C.1 C.2.1 dX9_isQuiet_38 (by decide) (fun c10 => ?_) (fun c10 => ?_)
          · have hw := hw.1 c10
            exact hw _ _ _ h (lv_sub hl [0, 1, 2, 3, 4] rfl)
          · have hw := hw.2 c10
            refine lv_iload_n (pc := 41) C.1 C.2.1 dX9_isQuiet_41 rfl (lv_at hl 2 rfl) ?_
            have hw := hw (fun (s11 : Int32) => ∀ (H : Heap) (locs : List Loc) (ls : Array Slot), wd D t A s (wM t a z) H locs → lv_has ls 6 [(0, .ref (a 0)), (1, .int b1), (4, .int x1), (5, .int v3)] → W p l e (rmd 1) s m args below meth c H locs 0 0 (QI D t A (wM t a) (fun rr zz => zz = z ∧ P rr) below args s) (F0 m 119 ls [.int s11])) (by
                intro s11 hw H locs ls h hl
                refine lv_istore_n (lv' := [(3, .int s11), (0, .ref (a 0)), (1, .int b1), (4, .int x1), (5, .int v3)]) (pc := 119) C.1 C.2.1 dX9_isQuiet_119 rfl hl (by decide) rfl (fun ls hl => ?_)
                exact hw _ _ _ h (lv_sub hl [1, 2, 0, 3, 4] rfl))
            have hw := hw (∀ (H : Heap) (locs : List Loc) (ls : Array Slot), wd D t A s (wM t a z) H locs → lv_has ls 6 [(0, .ref (a 0)), (1, .int b1), (4, .int x1), (5, .int v3)] → W p l e (rmd 1) s m args below meth c H locs 0 0 (QI D t A (wM t a) (fun rr zz => zz = z ∧ P rr) below args s) (F0 m 114 ls [])) (by
                intro hw H locs ls h hl
                refine lv_iconst (v := 1) (pc := 114) C.1 C.2.1 dX9_isQuiet_114 (by decide) ?_
                refine lv_goto (tgt := 119) (pc := 115) C.1 C.2.1 dX9_isQuiet_115 (by decide) ?_
                exact hw _ _ _ h (lv_sub hl [0, 1, 2, 3] rfl))
            refine lv_if_ne (tgt := 114) (pc := 42) C.1 C.2.1 dX9_isQuiet_42 (by decide) (fun c14 => ?_) (fun c14 => ?_)
            · have hw := hw.1 c14
              exact hw _ _ _ h (lv_sub hl [0, 1, 3, 4] rfl)
            · have hw := hw.2 c14
              refine lv_aload_n (pc := 45) C.1 C.2.1 dX9_isQuiet_45 rfl (lv_at hl 0 rfl) ?_
              refine GM_X9_63_0 (pc := 46) C h dX9_isQuiet_46 ?_
              refine lv_iload (pc := 49) C.1 C.2.1 dX9_isQuiet_49 (lv_at hl 4 rfl) ?_
              refine ldM_16 (pc := 51) C h hw.1 dX9_isQuiet_51 ?_
              have hw := hw.2
              refine lv_aload_n (pc := 52) C.1 C.2.1 dX9_isQuiet_52 rfl (lv_at hl 0 rfl) ?_
              refine GM_X9_66_0 (pc := 53) C h dX9_isQuiet_53 ?_
              refine lv_iload (pc := 56) C.1 C.2.1 dX9_isQuiet_56 (lv_at hl 4 rfl) ?_
              refine ldM_17 (pc := 58) C h hw.1 dX9_isQuiet_58 ?_
              have hw := hw.2
              have hw := hw (∀ (H : Heap) (locs : List Loc) (ls : Array Slot), wd D t A s (wM t a z) H locs → lv_has ls 6 [(0, .ref (a 0)), (1, .int b1), (4, .int x1), (5, .int v3)] → W p l e (rmd 1) s m args below meth c H locs 0 0 (QI D t A (wM t a) (fun rr zz => zz = z ∧ P rr) below args s) (F0 m 118 ls [])) (by
                  intro hw H locs ls h hl
                  refine lv_iconst (v := 0) (pc := 118) C.1 C.2.1 dX9_isQuiet_118 (by decide) ?_
                  exact hw _ _ _ h (lv_sub hl [0, 1, 2, 3] rfl))
              refine lv_icmp_gt (tgt := 90) (pc := 59) C.1 C.2.1 dX9_isQuiet_59 (by decide) (fun c16 => ?_) (fun c16 => ?_)
              · have hw := hw.1 c16
                refine lv_iload (pc := 90) C.1 C.2.1 dX9_isQuiet_90 (lv_at hl 3 rfl) ?_
                refine lv_aload_n (pc := 92) C.1 C.2.1 dX9_isQuiet_92 rfl (lv_at hl 0 rfl) ?_
                refine GM_X9_63_0 (pc := 93) C h dX9_isQuiet_93 ?_
                refine lv_iload (pc := 96) C.1 C.2.1 dX9_isQuiet_96 (lv_at hl 4 rfl) ?_
                refine ldM_16 (pc := 98) C h hw.1 dX9_isQuiet_98 ?_
                have hw := hw.2
                refine lv_icmp_ge (tgt := 114) (pc := 99) C.1 C.2.1 dX9_isQuiet_99 (by decide) (fun c17 => ?_) (fun c17 => ?_)
                · have hw := hw.1 c17
                  exact hw _ _ _ h (lv_sub hl [0, 1, 3, 4] rfl)
                · have hw := hw.2 c17
                  refine lv_iload (pc := 102) C.1 C.2.1 dX9_isQuiet_102 (lv_at hl 3 rfl) ?_
                  refine lv_aload_n (pc := 104) C.1 C.2.1 dX9_isQuiet_104 rfl (lv_at hl 0 rfl) ?_
                  refine GM_X9_66_0 (pc := 105) C h dX9_isQuiet_105 ?_
                  refine lv_iload (pc := 108) C.1 C.2.1 dX9_isQuiet_108 (lv_at hl 4 rfl) ?_
                  refine ldM_17 (pc := 110) C h hw.1 dX9_isQuiet_110 ?_
                  have hw := hw.2
                  refine lv_icmp_gt (tgt := 118) (pc := 111) C.1 C.2.1 dX9_isQuiet_111 (by decide) (fun c18 => ?_) (fun c18 => ?_)
                  · have hw := hw.1 c18
                    exact hw _ _ _ h (lv_sub hl [0, 1, 3, 4] rfl)
                  · have hw := hw.2 c18
                    exact hw _ _ _ h (lv_sub hl [0, 1, 3, 4] rfl)
              · have hw := hw.2 c16
                refine lv_iload (pc := 62) C.1 C.2.1 dX9_isQuiet_62 (lv_at hl 3 rfl) ?_
                refine lv_i2l (pc := 64) C.1 C.2.1 dX9_isQuiet_64 rfl ?_
                refine lv_aload_n (pc := 65) C.1 C.2.1 dX9_isQuiet_65 rfl (lv_at hl 0 rfl) ?_
                refine GM_X9_63_0 (pc := 66) C h dX9_isQuiet_66 ?_
                refine lv_iload (pc := 69) C.1 C.2.1 dX9_isQuiet_69 (lv_at hl 4 rfl) ?_
                refine ldM_16 (pc := 71) C h hw.1 dX9_isQuiet_71 ?_
                have hw := hw.2
                refine lv_i2l (pc := 72) C.1 C.2.1 dX9_isQuiet_72 rfl ?_
                refine lv_aload_n (pc := 73) C.1 C.2.1 dX9_isQuiet_73 rfl (lv_at hl 0 rfl) ?_
                refine GM_X9_66_0 (pc := 74) C h dX9_isQuiet_74 ?_
                refine lv_iload (pc := 77) C.1 C.2.1 dX9_isQuiet_77 (lv_at hl 4 rfl) ?_
                refine ldM_17 (pc := 79) C h hw.1 dX9_isQuiet_79 ?_
                have hw := hw.2
                refine lv_i2l (pc := 80) C.1 C.2.1 dX9_isQuiet_80 rfl ?_
                refine cl_si (pc := 81) (As := [.long (Int32.toInt64 x1), .long (Int32.toInt64 (gF z 16 v3.toNatClampNeg)), .long (Int32.toInt64 (gF z 17 v3.toNatClampNeg))]) (rest := []) C h (m_X9_in l D t a (Int32.toInt64 x1) (Int32.toInt64 (gF z 16 v3.toNatClampNeg)) (Int32.toInt64 (gF z 17 v3.toNatClampNeg)) z _ hw) mw_X9_in lm_X9_139 md_X9_in ⟨by decide, by decide⟩ ⟨Nat.zero_le _, Nat.zero_le _⟩ hl.1 rfl (Nat.le_of_ble_eq_true rfl) dX9_isQuiet_81 (fun r20 z19 H locs hw h => ?_)
                rw [hw.1] at h
                have hw := hw.2
                refine lv_if_eq (tgt := 118) (pc := 84) C.1 C.2.1 dX9_isQuiet_84 (by decide) (fun c21 => ?_) (fun c21 => ?_)
                · have hw := hw.1 c21
                  exact hw _ _ _ h (lv_sub hl [0, 1, 3, 4] rfl)
                · have hw := hw.2 c21
                  refine lv_goto (tgt := 114) (pc := 87) C.1 C.2.1 dX9_isQuiet_87 (by decide) ?_
                  exact hw _ _ _ h (lv_sub hl [0, 1, 3, 4] rfl))
  refine lv_istore (lv' := [(5, .int ((0 : Int32))), (4, .int x1), (3, .int ((0 : Int32))), (0, .ref (a 0)), (1, .int b1), (2, .int b2)]) (pc := 9) C.1 C.2.1 dX9_isQuiet_9 hl (by decide) rfl (fun ls hl => ?_)
  exact hw _ _ _ h (lv_sub hl [3, 4, 2, 1, 0] rfl)

def wp_X9_nowOf (b1 : Int32) (z : St) (P : Int32 → St → Prop) : Prop :=
  (∀ K1 : St → Prop, (∀ (z2 : St), (vp_in b1 168 ∧ P (gF z2 13 b1.toNatClampNeg) z2) → K1 z2) → (((¬ (gI z 21) = 0) → K1 z) ∧ ((gI z 21) = 0 → (∀ K5 : Int32 → St → Prop, (∀ (v4 : Int32) (z6 : St), (((((168 : Int32)) ≤ v4) → (∀ K9 : Int32 → St → Prop, (∀ (v8 : Int32) (z10 : St), ((((gI z10 3) ≤ v8) → (∀ z12 : St, z12 = wI z10 21 ((1 : Int32)) → K1 z12)) ∧ (¬ ((gI z10 3) ≤ v8) → (vp_in v8 400 ∧ (vp_in v8 400 ∧ (∀ K15 : Int32 → Int32 → Prop, (∀ (s13 : Int32) (s14 : Int32), (vp_in s14 168 ∧ (∀ z16 : St, z16 = wR z10 13 (upd (gF z10 13) s14.toNatClampNeg s13) → (∀ x17 : Int32, x17 = v8 + (1) → K9 x17 z16))) → K15 s13 s14) → ((((gI z10 2) < (gF z10 3 v8.toNatClampNeg)) → (vp_in v8 400 ∧ (vp_in (gF z10 1 v8.toNatClampNeg) 168 ∧ K15 (gF z10 13 (gF z10 1 v8.toNatClampNeg).toNatClampNeg) (gF z10 1 v8.toNatClampNeg)))) ∧ (¬ ((gI z10 2) < (gF z10 3 v8.toNatClampNeg)) → (vp_in v8 400 ∧ K15 (gF z10 2 v8.toNatClampNeg) (gF z10 1 v8.toNatClampNeg))))))))) → K9 v8 z10) → K9 ((0 : Int32)) z6)) ∧ (¬ (((168 : Int32)) ≤ v4) → (vp_in v4 168 ∧ (∀ z19 : St, z19 = wR z6 13 (upd (gF z6 13) v4.toNatClampNeg (gI z6 7)) → (∀ x20 : Int32, x20 = v4 + (1) → K5 x20 z19))))) → K5 v4 z6) → K5 ((0 : Int32)) z))))
set_option maxHeartbeats 4000000 in
set_option maxRecDepth 100000 in
theorem m_X9_nowOf (l : Launch) (D : va_G) (t : Ty3) (a : Nat → Nat) (b1 : Int32) (z : St) (P : Int32 → St → Prop) (hw : wp_X9_nowOf b1 z P) : CtI l D t yX9_nowOf cX9_nowOf 3 (some .int) 0 (wM t a) (wM t a z) [.ref (a 0), .int b1] P := by
  refine ctI_of (by decide) (Nat.le_of_ble_eq_true rfl) ?_
  intro p e s m args below meth c A ls C hr hlk h hl
  have hl : lv_has ls 3 [(0, .ref (a 0)), (1, .int b1)] := hl
  unfold wp_X9_nowOf at hw
  refine lv_aload_n (pc := 0) C.1 C.2.1 dX9_nowOf_0 rfl (lv_at hl 0 rfl) ?_
  refine GM_X9_169_0 (pc := 1) C h dX9_nowOf_1 ?_
  have hw := hw (fun (z2 : St) => ∀ (H : Heap) (locs : List Loc) (ls : Array Slot), wd D t A s (wM t a z2) H locs → lv_has ls 3 [(0, .ref (a 0)), (1, .int b1)] → W p l e (rmd 0) s m args below meth c H locs 0 0 (QI D t A (wM t a) P below args s) (F0 m 97 ls [])) (by
      intro z2 hw H locs ls h hl
      refine lv_aload_n (pc := 97) C.1 C.2.1 dX9_nowOf_97 rfl (lv_at hl 0 rfl) ?_
      refine GM_X9_54_0 (pc := 98) C h dX9_nowOf_98 ?_
      refine lv_iload_n (pc := 101) C.1 C.2.1 dX9_nowOf_101 rfl (lv_at hl 1 rfl) ?_
      refine ldM_13 (pc := 102) C h hw.1 dX9_nowOf_102 ?_
      have hw := hw.2
      exact rt_i (pc := 103) C hr hlk h hw dX9_nowOf_103)
  refine lv_if_ne (tgt := 97) (pc := 4) C.1 C.2.1 dX9_nowOf_4 (by decide) (fun c3 => ?_) (fun c3 => ?_)
  · have hw := hw.1 c3
    exact hw _ _ _ h (lv_sub hl [0, 1] rfl)
  · have hw := hw.2 c3
    refine lv_iconst (v := 0) (pc := 7) C.1 C.2.1 dX9_nowOf_7 (by decide) ?_
    have hw := hw (fun (v4 : Int32) (z6 : St) => ∀ (H : Heap) (locs : List Loc) (ls : Array Slot), wd D t A s (wM t a z6) H locs → lv_has ls 3 [(0, .ref (a 0)), (1, .int b1), (2, .int v4)] → W p l e (rmd 0) s m args below meth c H locs 0 0 (QI D t A (wM t a) P below args s) (F0 m 9 ls [])) (by
        intro v4 z6 hw H locs ls h hl
        refine lv_iload_n (pc := 9) C.1 C.2.1 dX9_nowOf_9 rfl (lv_at hl 2 rfl) ?_
        refine lv_sipush (v := 168) (pc := 10) C.1 C.2.1 dX9_nowOf_10 (by decide) ?_
        refine lv_icmp_ge (tgt := 32) (pc := 13) C.1 C.2.1 dX9_nowOf_13 (by decide) (fun c7 => ?_) (fun c7 => ?_)
        · have hw := hw.1 c7
          refine lv_iconst (v := 0) (pc := 32) C.1 C.2.1 dX9_nowOf_32 (by decide) ?_
          have hw := hw (fun (v8 : Int32) (z10 : St) => ∀ (H : Heap) (locs : List Loc) (ls : Array Slot), wd D t A s (wM t a z10) H locs → lv_has ls 3 [(0, .ref (a 0)), (1, .int b1), (2, .int v8)] → W p l e (rmd 0) s m args below meth c H locs 0 0 (QI D t A (wM t a) P below args s) (F0 m 34 ls [])) (by
              intro v8 z10 hw H locs ls h hl
              refine lv_iload_n (pc := 34) C.1 C.2.1 dX9_nowOf_34 rfl (lv_at hl 2 rfl) ?_
              refine lv_aload_n (pc := 35) C.1 C.2.1 dX9_nowOf_35 rfl (lv_at hl 0 rfl) ?_
              refine GM_X9_166_0 (pc := 36) C h dX9_nowOf_36 ?_
              refine lv_icmp_ge (tgt := 92) (pc := 39) C.1 C.2.1 dX9_nowOf_39 (by decide) (fun c11 => ?_) (fun c11 => ?_)
              · have hw := hw.1 c11
                refine lv_aload_n (pc := 92) C.1 C.2.1 dX9_nowOf_92 rfl (lv_at hl 0 rfl) ?_
                refine lv_iconst (v := 1) (pc := 93) C.1 C.2.1 dX9_nowOf_93 (by decide) ?_
                refine PM_X9_169_0 (pc := 94) C h (Or.inr rfl) dX9_nowOf_94 (fun z12 ez12 H locs h => ?_)
                have hw := hw z12 ez12
                exact hw _ _ _ h (lv_sub hl [0, 1] rfl)
              · have hw := hw.2 c11
                refine lv_aload_n (pc := 42) C.1 C.2.1 dX9_nowOf_42 rfl (lv_at hl 0 rfl) ?_
                refine GM_X9_54_0 (pc := 43) C h dX9_nowOf_43 ?_
                refine lv_aload_n (pc := 46) C.1 C.2.1 dX9_nowOf_46 rfl (lv_at hl 0 rfl) ?_
                refine GM_X9_7_0 (pc := 47) C h dX9_nowOf_47 ?_
                refine lv_iload_n (pc := 50) C.1 C.2.1 dX9_nowOf_50 rfl (lv_at hl 2 rfl) ?_
                refine ldM_1 (pc := 51) C h hw.1 dX9_nowOf_51 ?_
                have hw := hw.2
                refine lv_aload_n (pc := 52) C.1 C.2.1 dX9_nowOf_52 rfl (lv_at hl 0 rfl) ?_
                refine GM_X9_16_0 (pc := 53) C h dX9_nowOf_53 ?_
                refine lv_iload_n (pc := 56) C.1 C.2.1 dX9_nowOf_56 rfl (lv_at hl 2 rfl) ?_
                refine ldM_3 (pc := 57) C h hw.1 dX9_nowOf_57 ?_
                have hw := hw.2
                refine lv_aload_n (pc := 58) C.1 C.2.1 dX9_nowOf_58 rfl (lv_at hl 0 rfl) ?_
                refine GM_X9_173_0 (pc := 59) C h dX9_nowOf_59 ?_
                have hw := hw (fun (s13 : Int32) (s14 : Int32) => ∀ (H : Heap) (locs : List Loc) (ls : Array Slot), wd D t A s (wM t a z10) H locs → lv_has ls 3 [(0, .ref (a 0)), (1, .int b1), (2, .int v8)] → W p l e (rmd 0) s m args below meth c H locs 0 0 (QI D t A (wM t a) P below args s) (F0 m 85 ls [.int s13, .int s14, .ref (a 13)])) (by
                    intro s13 s14 hw H locs ls h hl
                    refine stM_13 (pc := 85) C h hw.1 dX9_nowOf_85 (fun z16 ez16 H locs h => ?_)
                    have hw := hw.2 z16 ez16
                    obtain ⟨x17, ex17⟩ : ∃ y : Int32, y = v8 + (1) := ⟨_, rfl⟩
                    have hw := hw x17 ex17
                    refine lv_iinc (v := x17) (lv' := [(2, .int x17), (0, .ref (a 0)), (1, .int b1)]) (pc := 86) C.1 C.2.1 dX9_nowOf_86 hl (k := 2) rfl (by rw [ex17]; rfl) (by decide) rfl (fun ls hl => ?_)
                    refine lv_goto (tgt := 34) (pc := 89) C.1 C.2.1 dX9_nowOf_89 (by decide) ?_
                    exact hw _ _ _ h (lv_sub hl [1, 2, 0] rfl))
                refine lv_icmp_gt (tgt := 74) (pc := 62) C.1 C.2.1 dX9_nowOf_62 (by decide) (fun c18 => ?_) (fun c18 => ?_)
                · have hw := hw.1 c18
                  refine lv_aload_n (pc := 74) C.1 C.2.1 dX9_nowOf_74 rfl (lv_at hl 0 rfl) ?_
                  refine GM_X9_54_0 (pc := 75) C h dX9_nowOf_75 ?_
                  refine lv_aload_n (pc := 78) C.1 C.2.1 dX9_nowOf_78 rfl (lv_at hl 0 rfl) ?_
                  refine GM_X9_7_0 (pc := 79) C h dX9_nowOf_79 ?_
                  refine lv_iload_n (pc := 82) C.1 C.2.1 dX9_nowOf_82 rfl (lv_at hl 2 rfl) ?_
                  refine ldM_1 (pc := 83) C h hw.1 dX9_nowOf_83 ?_
                  have hw := hw.2
                  refine ldM_13 (pc := 84) C h hw.1 dX9_nowOf_84 ?_
                  have hw := hw.2
                  exact hw _ _ _ h (lv_sub hl [0, 1, 2] rfl)
                · have hw := hw.2 c18
                  refine lv_aload_n (pc := 65) C.1 C.2.1 dX9_nowOf_65 rfl (lv_at hl 0 rfl) ?_
                  refine GM_X9_13_0 (pc := 66) C h dX9_nowOf_66 ?_
                  refine lv_iload_n (pc := 69) C.1 C.2.1 dX9_nowOf_69 rfl (lv_at hl 2 rfl) ?_
                  refine ldM_2 (pc := 70) C h hw.1 dX9_nowOf_70 ?_
                  have hw := hw.2
                  refine lv_goto (tgt := 85) (pc := 71) C.1 C.2.1 dX9_nowOf_71 (by decide) ?_
                  exact hw _ _ _ h (lv_sub hl [0, 1, 2] rfl))
          refine lv_istore_n (lv' := [(2, .int ((0 : Int32))), (0, .ref (a 0)), (1, .int b1)]) (pc := 33) C.1 C.2.1 dX9_nowOf_33 rfl hl (by decide) rfl (fun ls hl => ?_)
          exact hw _ _ _ h (lv_sub hl [1, 2, 0] rfl)
        · have hw := hw.2 c7
          refine lv_aload_n (pc := 16) C.1 C.2.1 dX9_nowOf_16 rfl (lv_at hl 0 rfl) ?_
          refine GM_X9_54_0 (pc := 17) C h dX9_nowOf_17 ?_
          refine lv_iload_n (pc := 20) C.1 C.2.1 dX9_nowOf_20 rfl (lv_at hl 2 rfl) ?_
          refine lv_aload_n (pc := 21) C.1 C.2.1 dX9_nowOf_21 rfl (lv_at hl 0 rfl) ?_
          refine GM_X9_19_0 (pc := 22) C h dX9_nowOf_22 ?_
          refine stM_13 (pc := 25) C h hw.1 dX9_nowOf_25 (fun z19 ez19 H locs h => ?_)
          have hw := hw.2 z19 ez19
          obtain ⟨x20, ex20⟩ : ∃ y : Int32, y = v4 + (1) := ⟨_, rfl⟩
          have hw := hw x20 ex20
          refine lv_iinc (v := x20) (lv' := [(2, .int x20), (0, .ref (a 0)), (1, .int b1)]) (pc := 26) C.1 C.2.1 dX9_nowOf_26 hl (k := 2) rfl (by rw [ex20]; rfl) (by decide) rfl (fun ls hl => ?_)
          refine lv_goto (tgt := 9) (pc := 29) C.1 C.2.1 dX9_nowOf_29 (by decide) ?_
          exact hw _ _ _ h (lv_sub hl [1, 2, 0] rfl))
    refine lv_istore_n (lv' := [(2, .int ((0 : Int32))), (0, .ref (a 0)), (1, .int b1)]) (pc := 8) C.1 C.2.1 dX9_nowOf_8 rfl hl (by decide) rfl (fun ls hl => ?_)
    exact hw _ _ _ h (lv_sub hl [1, 2, 0] rfl)

def wp_X9_isDear (b1 : Int32) (z : St) (P : Int32 → St → Prop) : Prop :=
  (∀ K3 : Int32 → Int32 → St → Prop, (∀ (v1 : Int32) (v2 : Int32) (z4 : St), ((((gI z4 22) ≤ v2) → ((v1 = 0 ∨ v1 = 1) ∧ P v1 z4)) ∧ (¬ ((gI z4 22) ≤ v2) → (∀ K7 : Int32 → St → Prop, (∀ (s6 : Int32) (z8 : St), (∀ x9 : Int32, x9 = v2 + (1) → K3 s6 x9 z8) → K7 s6 z8) → (∀ K10 : St → Prop, (∀ (z11 : St), K7 ((1 : Int32)) z11 → K10 z11) → (((¬ v1 = 0) → K10 z4) ∧ (v1 = 0 → (vp_in v2 20 ∧ (∀ K13 : St → Prop, (∀ (z14 : St), K7 ((0 : Int32)) z14 → K13 z14) → (((¬ (gF z4 14 v2.toNatClampNeg) = ((1 : Int32))) → K13 z4) ∧ ((gF z4 14 v2.toNatClampNeg) = ((1 : Int32)) → (wp_X9_nowOf b1 z4 (fun r17 z16 => (vp_in v2 20 ∧ (((r17 ≤ (gF z16 15 v2.toNatClampNeg)) → K13 z16) ∧ (¬ (r17 ≤ (gF z16 15 v2.toNatClampNeg)) → K10 z16))))))))))))))) → K3 v1 v2 z4) → K3 ((0 : Int32)) ((0 : Int32)) z)
set_option maxHeartbeats 4000000 in
set_option maxRecDepth 100000 in
theorem m_X9_isDear (l : Launch) (D : va_G) (t : Ty3) (a : Nat → Nat) (b1 : Int32) (z : St) (P : Int32 → St → Prop) (hw : wp_X9_isDear b1 z P) : CtI l D t yX9_isDear cX9_isDear 4 (some .boolean) 1 (wM t a) (wM t a z) [.ref (a 0), .int b1] P := by
  refine ctI_of (by decide) (Nat.le_of_ble_eq_true rfl) ?_
  intro p e s m args below meth c A ls C hr hlk h hl
  have hl : lv_has ls 4 [(0, .ref (a 0)), (1, .int b1)] := hl
  unfold wp_X9_isDear at hw
  refine lv_iconst (v := 0) (pc := 0) C.1 C.2.1 dX9_isDear_0 (by decide) ?_
  refine lv_istore_n (lv' := [(2, .int ((0 : Int32))), (0, .ref (a 0)), (1, .int b1)]) (pc := 1) C.1 C.2.1 dX9_isDear_1 rfl hl (by decide) rfl (fun ls hl => ?_)
  refine lv_iconst (v := 0) (pc := 2) C.1 C.2.1 dX9_isDear_2 (by decide) ?_
  have hw := hw (fun (v1 : Int32) (v2 : Int32) (z4 : St) => ∀ (H : Heap) (locs : List Loc) (ls : Array Slot), wd D t A s (wM t a z4) H locs → lv_has ls 4 [(0, .ref (a 0)), (1, .int b1), (2, .int v1), (3, .int v2)] → W p l e (rmd 1) s m args below meth c H locs 0 0 (QI D t A (wM t a) P below args s) (F0 m 4 ls [])) (by
      intro v1 v2 z4 hw H locs ls h hl
      refine lv_iload_n (pc := 4) C.1 C.2.1 dX9_isDear_4 rfl (lv_at hl 3 rfl) ?_
      refine lv_aload_n (pc := 5) C.1 C.2.1 dX9_isDear_5 rfl (lv_at hl 0 rfl) ?_
      refine GM_X9_207_0 (pc := 6) C h dX9_isDear_6 ?_
      refine lv_icmp_ge (tgt := 52) (pc := 9) C.1 C.2.1 dX9_isDear_9 (by decide) (fun c5 => ?_) (fun c5 => ?_)
      · have hw := hw.1 c5
        refine lv_iload_n (pc := 52) C.1 C.2.1 dX9_isDear_52 rfl (lv_at hl 2 rfl) ?_
        exact rt_z (pc := 53) C hr hlk h hw.1 hw.2 dX9_isDear_53
      · have hw := hw.2 c5
        refine lv_iload_n (pc := 12) C.1 C.2.1 dX9_isDear_12 rfl (lv_at hl 2 rfl) ?_
        have hw := hw (fun (s6 : Int32) (z8 : St) => ∀ (H : Heap) (locs : List Loc) (ls : Array Slot), wd D t A s (wM t a z8) H locs → lv_has ls 4 [(0, .ref (a 0)), (1, .int b1), (3, .int v2)] → W p l e (rmd 1) s m args below meth c H locs 0 0 (QI D t A (wM t a) P below args s) (F0 m 45 ls [.int s6])) (by
            intro s6 z8 hw H locs ls h hl
            refine lv_istore_n (lv' := [(2, .int s6), (0, .ref (a 0)), (1, .int b1), (3, .int v2)]) (pc := 45) C.1 C.2.1 dX9_isDear_45 rfl hl (by decide) rfl (fun ls hl => ?_)
            obtain ⟨x9, ex9⟩ : ∃ y : Int32, y = v2 + (1) := ⟨_, rfl⟩
            have hw := hw x9 ex9
            refine lv_iinc (v := x9) (lv' := [(3, .int x9), (2, .int s6), (0, .ref (a 0)), (1, .int b1)]) (pc := 46) C.1 C.2.1 dX9_isDear_46 hl (k := 3) rfl (by rw [ex9]; rfl) (by decide) rfl (fun ls hl => ?_)
            refine lv_goto (tgt := 4) (pc := 49) C.1 C.2.1 dX9_isDear_49 (by decide) ?_
            exact hw _ _ _ h (lv_sub hl [2, 3, 1, 0] rfl))
        have hw := hw (fun (z11 : St) => ∀ (H : Heap) (locs : List Loc) (ls : Array Slot), wd D t A s (wM t a z11) H locs → lv_has ls 4 [(0, .ref (a 0)), (1, .int b1), (3, .int v2)] → W p l e (rmd 1) s m args below meth c H locs 0 0 (QI D t A (wM t a) P below args s) (F0 m 40 ls [])) (by
            intro z11 hw H locs ls h hl
            refine lv_iconst (v := 1) (pc := 40) C.1 C.2.1 dX9_isDear_40 (by decide) ?_
            refine lv_goto (tgt := 45) (pc := 41) C.1 C.2.1 dX9_isDear_41 (by decide) ?_
            exact hw _ _ _ h (lv_sub hl [0, 1, 2] rfl))
        refine lv_if_ne (tgt := 40) (pc := 13) C.1 C.2.1 dX9_isDear_13 (by decide) (fun c12 => ?_) (fun c12 => ?_)
        · have hw := hw.1 c12
          exact hw _ _ _ h (lv_sub hl [0, 1, 3] rfl)
        · have hw := hw.2 c12
          refine lv_aload_n (pc := 16) C.1 C.2.1 dX9_isDear_16 rfl (lv_at hl 0 rfl) ?_
          refine GM_X9_57_0 (pc := 17) C h dX9_isDear_17 ?_
          refine lv_iload_n (pc := 20) C.1 C.2.1 dX9_isDear_20 rfl (lv_at hl 3 rfl) ?_
          refine ldM_14 (pc := 21) C h hw.1 dX9_isDear_21 ?_
          have hw := hw.2
          refine lv_iconst (v := 1) (pc := 22) C.1 C.2.1 dX9_isDear_22 (by decide) ?_
          have hw := hw (fun (z14 : St) => ∀ (H : Heap) (locs : List Loc) (ls : Array Slot), wd D t A s (wM t a z14) H locs → lv_has ls 4 [(0, .ref (a 0)), (1, .int b1), (3, .int v2)] → W p l e (rmd 1) s m args below meth c H locs 0 0 (QI D t A (wM t a) P below args s) (F0 m 44 ls [])) (by
              intro z14 hw H locs ls h hl
              refine lv_iconst (v := 0) (pc := 44) C.1 C.2.1 dX9_isDear_44 (by decide) ?_
              exact hw _ _ _ h (lv_sub hl [0, 1, 2] rfl))
          refine lv_icmp_ne (tgt := 44) (pc := 23) C.1 C.2.1 dX9_isDear_23 (by decide) (fun c15 => ?_) (fun c15 => ?_)
          · have hw := hw.1 c15
            exact hw _ _ _ h (lv_sub hl [0, 1, 3] rfl)
          · have hw := hw.2 c15
            refine lv_aload_n (pc := 26) C.1 C.2.1 dX9_isDear_26 rfl (lv_at hl 0 rfl) ?_
            refine lv_iload_n (pc := 27) C.1 C.2.1 dX9_isDear_27 rfl (lv_at hl 1 rfl) ?_
            refine cl_vi (pc := 28) (As := [.int b1]) (rest := []) C h (m_X9_nowOf l D t a b1 z4 _ hw) mw_X9_nowOf lm_X9_210 md_X9_nowOf rcM_0 ⟨by decide, by decide⟩ ⟨Nat.zero_le _, Nat.zero_le _⟩ hl.1 rfl (Nat.le_of_ble_eq_true rfl) dX9_isDear_28 (fun r17 z16 H locs hw h => ?_)
            refine lv_aload_n (pc := 31) C.1 C.2.1 dX9_isDear_31 rfl (lv_at hl 0 rfl) ?_
            refine GM_X9_60_0 (pc := 32) C h dX9_isDear_32 ?_
            refine lv_iload_n (pc := 35) C.1 C.2.1 dX9_isDear_35 rfl (lv_at hl 3 rfl) ?_
            refine ldM_15 (pc := 36) C h hw.1 dX9_isDear_36 ?_
            have hw := hw.2
            refine lv_icmp_le (tgt := 44) (pc := 37) C.1 C.2.1 dX9_isDear_37 (by decide) (fun c18 => ?_) (fun c18 => ?_)
            · have hw := hw.1 c18
              exact hw _ _ _ h (lv_sub hl [0, 1, 3] rfl)
            · have hw := hw.2 c18
              exact hw _ _ _ h (lv_sub hl [0, 1, 3] rfl))
  refine lv_istore_n (lv' := [(3, .int ((0 : Int32))), (2, .int ((0 : Int32))), (0, .ref (a 0)), (1, .int b1)]) (pc := 3) C.1 C.2.1 dX9_isDear_3 rfl hl (by decide) rfl (fun ls hl => ?_)
  exact hw _ _ _ h (lv_sub hl [2, 3, 1, 0] rfl)

def wp_X9_drawnBy (b1 : Int32) (b2 : Int32) (z : St) (P : Int32 → Prop) : Prop :=
  (vp_in b1 16 ∧ (∀ x1 : Int32, x1 = b2 - (gF z 12 b1.toNatClampNeg) → (vp_in b1 16 ∧ ((((gF z 11 b1.toNatClampNeg) = 0) → P ((0 : Int32))) ∧ (¬ ((gF z 11 b1.toNatClampNeg) = 0) → (vp_in b1 16 ∧ (wp_X9_in (Int32.toInt64 x1) ((0 : Int64)) ((Int32.toInt64 (gF z 9 b1.toNatClampNeg)) - ((1 : Int64))) z (fun r4 => (((r4 = 0) → P ((0 : Int32))) ∧ (¬ (r4 = 0) → (vp_in ((((4 : Int32)) * b1) + x1) 64 ∧ P (gF z 10 ((((4 : Int32)) * b1) + x1).toNatClampNeg))))))))))))
set_option maxHeartbeats 4000000 in
set_option maxRecDepth 100000 in
theorem m_X9_drawnBy (l : Launch) (D : va_G) (t : Ty3) (a : Nat → Nat) (b1 : Int32) (b2 : Int32) (z : St) (P : Int32 → Prop) (hw : wp_X9_drawnBy b1 b2 z P) : CtI l D t yX9_drawnBy cX9_drawnBy 4 (some .int) 1 (wM t a) (wM t a z) [.ref (a 0), .int b1, .int b2] (fun rr zz => zz = z ∧ P rr) := by
  refine ctI_of (by decide) (Nat.le_of_ble_eq_true rfl) ?_
  intro p e s m args below meth c A ls C hr hlk h hl
  have hl : lv_has ls 4 [(0, .ref (a 0)), (1, .int b1), (2, .int b2)] := hl
  unfold wp_X9_drawnBy at hw
  refine lv_iload_n (pc := 0) C.1 C.2.1 dX9_drawnBy_0 rfl (lv_at hl 2 rfl) ?_
  refine lv_aload_n (pc := 1) C.1 C.2.1 dX9_drawnBy_1 rfl (lv_at hl 0 rfl) ?_
  refine GM_X9_51_0 (pc := 2) C h dX9_drawnBy_2 ?_
  refine lv_iload_n (pc := 5) C.1 C.2.1 dX9_drawnBy_5 rfl (lv_at hl 1 rfl) ?_
  refine ldM_12 (pc := 6) C h hw.1 dX9_drawnBy_6 ?_
  have hw := hw.2
  refine lv_isub (pc := 7) C.1 C.2.1 dX9_drawnBy_7 ?_
  refine lv_topi (fun x1 ex1 => ?_)
  have hw := hw x1 ex1
  refine lv_istore_n (lv' := [(3, .int x1), (0, .ref (a 0)), (1, .int b1), (2, .int b2)]) (pc := 8) C.1 C.2.1 dX9_drawnBy_8 rfl hl (by decide) rfl (fun ls hl => ?_)
  refine lv_aload_n (pc := 9) C.1 C.2.1 dX9_drawnBy_9 rfl (lv_at hl 1 rfl) ?_
  refine GM_X9_48_0 (pc := 10) C h dX9_drawnBy_10 ?_
  refine lv_iload_n (pc := 13) C.1 C.2.1 dX9_drawnBy_13 rfl (lv_at hl 2 rfl) ?_
  refine ldM_11 (pc := 14) C h hw.1 dX9_drawnBy_14 ?_
  have hw := hw.2
  refine lv_if_eq (tgt := 49) (pc := 15) C.1 C.2.1 dX9_drawnBy_15 (by decide) (fun c2 => ?_) (fun c2 => ?_)
  · have hw := hw.1 c2
    refine lv_iconst (v := 0) (pc := 49) C.1 C.2.1 dX9_drawnBy_49 (by decide) ?_
    exact rt_i (pc := 50) C hr hlk h ⟨rfl, hw⟩ dX9_drawnBy_50
  · have hw := hw.2 c2
    refine lv_iload_n (pc := 18) C.1 C.2.1 dX9_drawnBy_18 rfl (lv_at hl 0 rfl) ?_
    refine lv_i2l (pc := 19) C.1 C.2.1 dX9_drawnBy_19 rfl ?_
    refine lv_lconst (v := 0) (pc := 20) C.1 C.2.1 dX9_drawnBy_20 (by decide) ?_
    refine lv_aload_n (pc := 21) C.1 C.2.1 dX9_drawnBy_21 rfl (lv_at hl 1 rfl) ?_
    refine GM_X9_42_0 (pc := 22) C h dX9_drawnBy_22 ?_
    refine lv_iload_n (pc := 25) C.1 C.2.1 dX9_drawnBy_25 rfl (lv_at hl 2 rfl) ?_
    refine ldM_9 (pc := 26) C h hw.1 dX9_drawnBy_26 ?_
    have hw := hw.2
    refine lv_i2l (pc := 27) C.1 C.2.1 dX9_drawnBy_27 rfl ?_
    refine lv_lconst (v := 1) (pc := 28) C.1 C.2.1 dX9_drawnBy_28 (by decide) ?_
    refine lv_lsub (pc := 29) C.1 C.2.1 dX9_drawnBy_29 ?_
    refine cl_si (pc := 30) (As := [.long (Int32.toInt64 x1), .long ((0 : Int64)), .long ((Int32.toInt64 (gF z 9 b1.toNatClampNeg)) - ((1 : Int64)))]) (rest := []) C h (m_X9_in l D t a (Int32.toInt64 x1) ((0 : Int64)) ((Int32.toInt64 (gF z 9 b1.toNatClampNeg)) - ((1 : Int64))) z _ hw) mw_X9_in lm_X9_139 md_X9_in ⟨by decide, by decide⟩ ⟨Nat.zero_le _, Nat.zero_le _⟩ hl.1 rfl (Nat.le_of_ble_eq_true rfl) dX9_drawnBy_30 (fun r4 z3 H locs hw h => ?_)
    rw [hw.1] at h
    have hw := hw.2
    refine lv_if_eq (tgt := 49) (pc := 33) C.1 C.2.1 dX9_drawnBy_33 (by decide) (fun c5 => ?_) (fun c5 => ?_)
    · have hw := hw.1 c5
      refine lv_iconst (v := 0) (pc := 49) C.1 C.2.1 dX9_drawnBy_49 (by decide) ?_
      exact rt_i (pc := 50) C hr hlk h ⟨rfl, hw⟩ dX9_drawnBy_50
    · have hw := hw.2 c5
      refine lv_aload_n (pc := 36) C.1 C.2.1 dX9_drawnBy_36 rfl (lv_at hl 1 rfl) ?_
      refine GM_X9_45_0 (pc := 37) C h dX9_drawnBy_37 ?_
      refine lv_iconst (v := 4) (pc := 40) C.1 C.2.1 dX9_drawnBy_40 (by decide) ?_
      refine lv_iload_n (pc := 41) C.1 C.2.1 dX9_drawnBy_41 rfl (lv_at hl 2 rfl) ?_
      refine lv_imul (pc := 42) C.1 C.2.1 dX9_drawnBy_42 ?_
      refine lv_iload_n (pc := 43) C.1 C.2.1 dX9_drawnBy_43 rfl (lv_at hl 0 rfl) ?_
      refine lv_iadd (pc := 44) C.1 C.2.1 dX9_drawnBy_44 ?_
      refine ldM_10 (pc := 45) C h hw.1 dX9_drawnBy_45 ?_
      have hw := hw.2
      refine lv_goto (tgt := 50) (pc := 46) C.1 C.2.1 dX9_drawnBy_46 (by decide) ?_
      exact rt_i (pc := 50) C hr hlk h ⟨rfl, hw⟩ dX9_drawnBy_50

def wp_X9_loadOf (b1 : Int32) (b2 : Int32) (b3 : Int32) (z : St) (P : Int32 → Prop) : Prop :=
  (vp_in ((((24 : Int32)) * b1) + (b2 - b2 / ((24 : Int32)) * ((24 : Int32)))) 96 ∧ (∀ x1 : Int32, x1 = gF z 5 ((((24 : Int32)) * b1) + (b2 - b2 / ((24 : Int32)) * ((24 : Int32)))).toNatClampNeg → (∀ K4 : Int32 → Int32 → Prop, (∀ (v2 : Int32) (v3 : Int32), ((((gI z 12) ≤ v3) → P v2) ∧ (¬ ((gI z 12) ≤ v3) → (∀ K8 : Int32 → Int32 → Prop, (∀ (s6 : Int32) (s7 : Int32), (∀ x9 : Int32, x9 = s7 + s6 → (∀ x10 : Int32, x10 = v3 + (1) → K4 x9 x10)) → K8 s6 s7) → (∀ K12 : Int32 → Prop, (∀ (s11 : Int32), K8 ((0 : Int32)) s11 → K12 s11) → (((v3 = b3) → K12 v2) ∧ (¬ (v3 = b3) → (vp_in v3 16 ∧ (((¬ (gF z 6 v3.toNatClampNeg) = b1) → K12 v2) ∧ ((gF z 6 v3.toNatClampNeg) = b1 → (wp_X9_drawnBy v3 b2 z (fun r16 => K8 r16 v2))))))))))) → K4 v2 v3) → K4 x1 ((0 : Int32)))))
set_option maxHeartbeats 4000000 in
set_option maxRecDepth 100000 in
theorem m_X9_loadOf (l : Launch) (D : va_G) (t : Ty3) (a : Nat → Nat) (b1 : Int32) (b2 : Int32) (b3 : Int32) (z : St) (P : Int32 → Prop) (hw : wp_X9_loadOf b1 b2 b3 z P) : CtI l D t yX9_loadOf cX9_loadOf 6 (some .int) 2 (wM t a) (wM t a z) [.ref (a 0), .int b1, .int b2, .int b3] (fun rr zz => zz = z ∧ P rr) := by
  refine ctI_of (by decide) (Nat.le_of_ble_eq_true rfl) ?_
  intro p e s m args below meth c A ls C hr hlk h hl
  have hl : lv_has ls 6 [(0, .ref (a 0)), (1, .int b1), (2, .int b2), (3, .int b3)] := hl
  unfold wp_X9_loadOf at hw
  refine lv_aload_n (pc := 0) C.1 C.2.1 dX9_loadOf_0 rfl (lv_at hl 0 rfl) ?_
  refine GM_X9_26_0 (pc := 1) C h dX9_loadOf_1 ?_
  refine lv_bipush (v := 24) (pc := 4) C.1 C.2.1 dX9_loadOf_4 (by decide) ?_
  refine lv_iload_n (pc := 6) C.1 C.2.1 dX9_loadOf_6 rfl (lv_at hl 1 rfl) ?_
  refine lv_imul (pc := 7) C.1 C.2.1 dX9_loadOf_7 ?_
  refine lv_iload_n (pc := 8) C.1 C.2.1 dX9_loadOf_8 rfl (lv_at hl 2 rfl) ?_
  refine lv_bipush (v := 24) (pc := 9) C.1 C.2.1 dX9_loadOf_9 (by decide) ?_
  refine lv_irem (pc := 11) C.1 C.2.1 dX9_loadOf_11 (by decide) ?_
  refine lv_iadd (pc := 12) C.1 C.2.1 dX9_loadOf_12 ?_
  refine ldM_5 (pc := 13) C h hw.1 dX9_loadOf_13 ?_
  have hw := hw.2
  refine lv_topi (fun x1 ex1 => ?_)
  have hw := hw x1 ex1
  refine lv_istore (lv' := [(4, .int x1), (0, .ref (a 0)), (1, .int b1), (2, .int b2), (3, .int b3)]) (pc := 14) C.1 C.2.1 dX9_loadOf_14 hl (by decide) rfl (fun ls hl => ?_)
  refine lv_iconst (v := 0) (pc := 16) C.1 C.2.1 dX9_loadOf_16 (by decide) ?_
  have hw := hw (fun (v2 : Int32) (v3 : Int32) => ∀ (H : Heap) (locs : List Loc) (ls : Array Slot), wd D t A s (wM t a z) H locs → lv_has ls 6 [(0, .ref (a 0)), (1, .int b1), (2, .int b2), (3, .int b3), (4, .int v2), (5, .int v3)] → W p l e (rmd 2) s m args below meth c H locs 0 0 (QI D t A (wM t a) (fun rr zz => zz = z ∧ P rr) below args s) (F0 m 19 ls [])) (by
      intro v2 v3 hw H locs ls h hl
      refine lv_iload (pc := 19) C.1 C.2.1 dX9_loadOf_19 (lv_at hl 5 rfl) ?_
      refine lv_aload_n (pc := 21) C.1 C.2.1 dX9_loadOf_21 rfl (lv_at hl 0 rfl) ?_
      refine GM_X9_148_0 (pc := 22) C h dX9_loadOf_22 ?_
      refine lv_icmp_ge (tgt := 67) (pc := 25) C.1 C.2.1 dX9_loadOf_25 (by decide) (fun c5 => ?_) (fun c5 => ?_)
      · have hw := hw.1 c5
        refine lv_iload (pc := 67) C.1 C.2.1 dX9_loadOf_67 (lv_at hl 4 rfl) ?_
        exact rt_i (pc := 69) C hr hlk h ⟨rfl, hw⟩ dX9_loadOf_69
      · have hw := hw.2 c5
        refine lv_iload (pc := 28) C.1 C.2.1 dX9_loadOf_28 (lv_at hl 4 rfl) ?_
        refine lv_iload (pc := 30) C.1 C.2.1 dX9_loadOf_30 (lv_at hl 5 rfl) ?_
        refine lv_iload_n (pc := 32) C.1 C.2.1 dX9_loadOf_32 rfl (lv_at hl 3 rfl) ?_
        have hw := hw (fun (s6 : Int32) (s7 : Int32) => ∀ (H : Heap) (locs : List Loc) (ls : Array Slot), wd D t A s (wM t a z) H locs → lv_has ls 6 [(0, .ref (a 0)), (1, .int b1), (2, .int b2), (3, .int b3), (5, .int v3)] → W p l e (rmd 2) s m args below meth c H locs 0 0 (QI D t A (wM t a) (fun rr zz => zz = z ∧ P rr) below args s) (F0 m 58 ls [.int s6, .int s7])) (by
            intro s6 s7 hw H locs ls h hl
            refine lv_iadd (pc := 58) C.1 C.2.1 dX9_loadOf_58 ?_
            refine lv_topi (fun x9 ex9 => ?_)
            have hw := hw x9 ex9
            refine lv_istore (lv' := [(4, .int x9), (0, .ref (a 0)), (1, .int b1), (2, .int b2), (3, .int b3), (5, .int v3)]) (pc := 59) C.1 C.2.1 dX9_loadOf_59 hl (by decide) rfl (fun ls hl => ?_)
            obtain ⟨x10, ex10⟩ : ∃ y : Int32, y = v3 + (1) := ⟨_, rfl⟩
            have hw := hw x10 ex10
            refine lv_iinc (v := x10) (lv' := [(5, .int x10), (4, .int x9), (0, .ref (a 0)), (1, .int b1), (2, .int b2), (3, .int b3)]) (pc := 61) C.1 C.2.1 dX9_loadOf_61 hl (k := 5) rfl (by rw [ex10]; rfl) (by decide) rfl (fun ls hl => ?_)
            refine lv_goto (tgt := 19) (pc := 64) C.1 C.2.1 dX9_loadOf_64 (by decide) ?_
            exact hw _ _ _ h (lv_sub hl [2, 3, 4, 5, 1, 0] rfl))
        have hw := hw (fun (s11 : Int32) => ∀ (H : Heap) (locs : List Loc) (ls : Array Slot), wd D t A s (wM t a z) H locs → lv_has ls 6 [(0, .ref (a 0)), (1, .int b1), (2, .int b2), (3, .int b3), (5, .int v3)] → W p l e (rmd 2) s m args below meth c H locs 0 0 (QI D t A (wM t a) (fun rr zz => zz = z ∧ P rr) below args s) (F0 m 57 ls [.int s11])) (by
            intro s11 hw H locs ls h hl
            refine lv_iconst (v := 0) (pc := 57) C.1 C.2.1 dX9_loadOf_57 (by decide) ?_
            exact hw _ _ _ h (lv_sub hl [0, 1, 2, 3, 4] rfl))
        refine lv_icmp_eq (tgt := 57) (pc := 33) C.1 C.2.1 dX9_loadOf_33 (by decide) (fun c13 => ?_) (fun c13 => ?_)
        · have hw := hw.1 c13
          exact hw _ _ _ h (lv_sub hl [0, 1, 2, 3, 5] rfl)
        · have hw := hw.2 c13
          refine lv_aload_n (pc := 36) C.1 C.2.1 dX9_loadOf_36 rfl (lv_at hl 0 rfl) ?_
          refine GM_X9_33_0 (pc := 37) C h dX9_loadOf_37 ?_
          refine lv_iload (pc := 40) C.1 C.2.1 dX9_loadOf_40 (lv_at hl 5 rfl) ?_
          refine ldM_6 (pc := 42) C h hw.1 dX9_loadOf_42 ?_
          have hw := hw.2
          refine lv_iload_n (pc := 43) C.1 C.2.1 dX9_loadOf_43 rfl (lv_at hl 1 rfl) ?_
          refine lv_icmp_ne (tgt := 57) (pc := 44) C.1 C.2.1 dX9_loadOf_44 (by decide) (fun c14 => ?_) (fun c14 => ?_)
          · have hw := hw.1 c14
            exact hw _ _ _ h (lv_sub hl [0, 1, 2, 3, 5] rfl)
          · have hw := hw.2 c14
            refine lv_aload_n (pc := 47) C.1 C.2.1 dX9_loadOf_47 rfl (lv_at hl 0 rfl) ?_
            refine lv_iload (pc := 48) C.1 C.2.1 dX9_loadOf_48 (lv_at hl 5 rfl) ?_
            refine lv_iload_n (pc := 50) C.1 C.2.1 dX9_loadOf_50 rfl (lv_at hl 2 rfl) ?_
            refine cl_vi (pc := 51) (As := [.int v3, .int b2]) (rest := [.int v2]) C h (m_X9_drawnBy l D t a v3 b2 z _ hw) mw_X9_drawnBy lm_X9_200 md_X9_drawnBy rcM_0 ⟨by decide, by decide⟩ ⟨Nat.zero_le _, Nat.zero_le _⟩ hl.1 rfl (Nat.le_of_ble_eq_true rfl) dX9_loadOf_51 (fun r16 z15 H locs hw h => ?_)
            rw [hw.1] at h
            have hw := hw.2
            refine lv_goto (tgt := 58) (pc := 54) C.1 C.2.1 dX9_loadOf_54 (by decide) ?_
            exact hw _ _ _ h (lv_sub hl [0, 1, 2, 3, 5] rfl))
  refine lv_istore (lv' := [(5, .int ((0 : Int32))), (4, .int x1), (0, .ref (a 0)), (1, .int b1), (2, .int b2), (3, .int b3)]) (pc := 17) C.1 C.2.1 dX9_loadOf_17 hl (by decide) rfl (fun ls hl => ?_)
  exact hw _ _ _ h (lv_sub hl [2, 3, 4, 5, 1, 0] rfl)
