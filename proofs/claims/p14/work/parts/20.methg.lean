def wp_X9_count (b1 : Int32) (z : St) (P : Int32 → St → Prop) : Prop :=
  (∀ z1 : St, z1 = wI z 0 ((0 : Int32)) → ((b1 = 0 → P (gI z1 2) z1) ∧ (b1 = 1 → P (gI z1 8) z1) ∧ (b1 = 2 → P (gI z1 12) z1) ∧ (b1 = 3 → P (gI z1 3) z1) ∧ (b1 = 4 → P (gI z1 22) z1) ∧ (b1 = 5 → P (gI z1 43) z1) ∧ (b1 = 6 → P (gI z1 36) z1) ∧ (b1 = 7 → (wp_X9_jobsThat ((0 : Int32)) z1 (fun r4 z3 => P r4 z3))) ∧ (b1 = 8 → (wp_X9_jobsThat ((1 : Int32)) z1 (fun r6 z5 => P r6 z5))) ∧ (b1 = 9 → (wp_X9_jobsThat ((2 : Int32)) z1 (fun r8 z7 => P r8 z7))) ∧ ((b1.toInt < 0 ∨ 9 < b1.toInt) → P ((-1 : Int32)) z1)))
set_option maxHeartbeats 4000000 in
set_option maxRecDepth 100000 in
theorem m_X9_count (l : Launch) (D : va_G) (t : Ty3) (a : Nat → Nat) (b1 : Int32) (z : St) (P : Int32 → St → Prop) (hw : wp_X9_count b1 z P) : CtI l D t yX9_count cX9_count 2 (some .int) 1 (wM t a) (wM t a z) [.ref (a 0), .int b1] P := by
  refine ctI_of (by decide) (Nat.le_of_ble_eq_true rfl) ?_
  intro p e s m args below meth c A ls C hr hlk h hl
  have hl : lv_has ls 2 [(0, .ref (a 0)), (1, .int b1)] := hl
  unfold wp_X9_count at hw
  refine lv_aload_n (pc := 0) C.1 C.2.1 dX9_count_0 rfl (lv_at hl 0 rfl) ?_
  refine lv_iconst (v := 0) (pc := 1) C.1 C.2.1 dX9_count_1 (by decide) ?_
  refine PM_X9_131_0 (pc := 2) C h dX9_count_2 (fun z1 ez1 H locs h => ?_)
  have hw := hw z1 ez1
  refine lv_iload_n (pc := 5) C.1 C.2.1 dX9_count_5 rfl (lv_at hl 1 rfl) ?_
  by_cases c2_0 : b1 = 0
  · have hw := hw.1 c2_0
    refine lv_tableIn (off := 54) (tgt := 60) (pc := 6) C.1 C.2.1 dX9_count_6 (by rw [c2_0]; decide) (by rw [c2_0]; decide) (by rw [c2_0]; rfl) (by decide) ?_
    refine lv_aload_n (pc := 60) C.1 C.2.1 dX9_count_60 rfl (lv_at hl 0 rfl) ?_
    refine GM_X9_173_0 (pc := 61) C h dX9_count_61 ?_
    exact rt_i (pc := 64) C hr hlk h hw dX9_count_64
  by_cases c2_1 : b1 = 1
  · have hw := hw.2.1 c2_1
    refine lv_tableIn (off := 59) (tgt := 65) (pc := 6) C.1 C.2.1 dX9_count_6 (by rw [c2_1]; decide) (by rw [c2_1]; decide) (by rw [c2_1]; rfl) (by decide) ?_
    refine lv_aload_n (pc := 65) C.1 C.2.1 dX9_count_65 rfl (lv_at hl 0 rfl) ?_
    refine GM_X9_145_0 (pc := 66) C h dX9_count_66 ?_
    exact rt_i (pc := 69) C hr hlk h hw dX9_count_69
  by_cases c2_2 : b1 = 2
  · have hw := hw.2.2.1 c2_2
    refine lv_tableIn (off := 64) (tgt := 70) (pc := 6) C.1 C.2.1 dX9_count_6 (by rw [c2_2]; decide) (by rw [c2_2]; decide) (by rw [c2_2]; rfl) (by decide) ?_
    refine lv_aload_n (pc := 70) C.1 C.2.1 dX9_count_70 rfl (lv_at hl 0 rfl) ?_
    refine GM_X9_148_0 (pc := 71) C h dX9_count_71 ?_
    exact rt_i (pc := 74) C hr hlk h hw dX9_count_74
  by_cases c2_3 : b1 = 3
  · have hw := hw.2.2.2.1 c2_3
    refine lv_tableIn (off := 69) (tgt := 75) (pc := 6) C.1 C.2.1 dX9_count_6 (by rw [c2_3]; decide) (by rw [c2_3]; decide) (by rw [c2_3]; rfl) (by decide) ?_
    refine lv_aload_n (pc := 75) C.1 C.2.1 dX9_count_75 rfl (lv_at hl 0 rfl) ?_
    refine GM_X9_166_0 (pc := 76) C h dX9_count_76 ?_
    exact rt_i (pc := 79) C hr hlk h hw dX9_count_79
  by_cases c2_4 : b1 = 4
  · have hw := hw.2.2.2.2.1 c2_4
    refine lv_tableIn (off := 74) (tgt := 80) (pc := 6) C.1 C.2.1 dX9_count_6 (by rw [c2_4]; decide) (by rw [c2_4]; decide) (by rw [c2_4]; rfl) (by decide) ?_
    refine lv_aload_n (pc := 80) C.1 C.2.1 dX9_count_80 rfl (lv_at hl 0 rfl) ?_
    refine GM_X9_207_0 (pc := 81) C h dX9_count_81 ?_
    exact rt_i (pc := 84) C hr hlk h hw dX9_count_84
  by_cases c2_5 : b1 = 5
  · have hw := hw.2.2.2.2.2.1 c2_5
    refine lv_tableIn (off := 79) (tgt := 85) (pc := 6) C.1 C.2.1 dX9_count_6 (by rw [c2_5]; decide) (by rw [c2_5]; decide) (by rw [c2_5]; rfl) (by decide) ?_
    refine lv_aload_n (pc := 85) C.1 C.2.1 dX9_count_85 rfl (lv_at hl 0 rfl) ?_
    refine GM_X9_306_0 (pc := 86) C h dX9_count_86 ?_
    exact rt_i (pc := 89) C hr hlk h hw dX9_count_89
  by_cases c2_6 : b1 = 6
  · have hw := hw.2.2.2.2.2.2.1 c2_6
    refine lv_tableIn (off := 84) (tgt := 90) (pc := 6) C.1 C.2.1 dX9_count_6 (by rw [c2_6]; decide) (by rw [c2_6]; decide) (by rw [c2_6]; rfl) (by decide) ?_
    refine lv_aload_n (pc := 90) C.1 C.2.1 dX9_count_90 rfl (lv_at hl 0 rfl) ?_
    refine GM_X9_243_0 (pc := 91) C h dX9_count_91 ?_
    exact rt_i (pc := 94) C hr hlk h hw dX9_count_94
  by_cases c2_7 : b1 = 7
  · have hw := hw.2.2.2.2.2.2.2.1 c2_7
    refine lv_tableIn (off := 89) (tgt := 95) (pc := 6) C.1 C.2.1 dX9_count_6 (by rw [c2_7]; decide) (by rw [c2_7]; decide) (by rw [c2_7]; rfl) (by decide) ?_
    refine lv_aload_n (pc := 95) C.1 C.2.1 dX9_count_95 rfl (lv_at hl 0 rfl) ?_
    refine lv_iconst (v := 0) (pc := 96) C.1 C.2.1 dX9_count_96 (by decide) ?_
    refine cl_vi (pc := 97) (As := [.int ((0 : Int32))]) (rest := []) C h (m_X9_jobsThat l D t a ((0 : Int32)) z1 _ hw) mw_X9_jobsThat lm_X9_326 md_X9_jobsThat rcM_0 ⟨by decide, by decide⟩ ⟨Nat.zero_le _, Nat.zero_le _⟩ hl.1 rfl (Nat.le_of_ble_eq_true rfl) dX9_count_97 (fun r4 z3 H locs hw h => ?_)
    exact rt_i (pc := 100) C hr hlk h hw dX9_count_100
  by_cases c2_8 : b1 = 8
  · have hw := hw.2.2.2.2.2.2.2.2.1 c2_8
    refine lv_tableIn (off := 95) (tgt := 101) (pc := 6) C.1 C.2.1 dX9_count_6 (by rw [c2_8]; decide) (by rw [c2_8]; decide) (by rw [c2_8]; rfl) (by decide) ?_
    refine lv_aload_n (pc := 101) C.1 C.2.1 dX9_count_101 rfl (lv_at hl 0 rfl) ?_
    refine lv_iconst (v := 1) (pc := 102) C.1 C.2.1 dX9_count_102 (by decide) ?_
    refine cl_vi (pc := 103) (As := [.int ((1 : Int32))]) (rest := []) C h (m_X9_jobsThat l D t a ((1 : Int32)) z1 _ hw) mw_X9_jobsThat lm_X9_326 md_X9_jobsThat rcM_0 ⟨by decide, by decide⟩ ⟨Nat.zero_le _, Nat.zero_le _⟩ hl.1 rfl (Nat.le_of_ble_eq_true rfl) dX9_count_103 (fun r6 z5 H locs hw h => ?_)
    exact rt_i (pc := 106) C hr hlk h hw dX9_count_106
  by_cases c2_9 : b1 = 9
  · have hw := hw.2.2.2.2.2.2.2.2.2.1 c2_9
    refine lv_tableIn (off := 101) (tgt := 107) (pc := 6) C.1 C.2.1 dX9_count_6 (by rw [c2_9]; decide) (by rw [c2_9]; decide) (by rw [c2_9]; rfl) (by decide) ?_
    refine lv_aload_n (pc := 107) C.1 C.2.1 dX9_count_107 rfl (lv_at hl 0 rfl) ?_
    refine lv_iconst (v := 2) (pc := 108) C.1 C.2.1 dX9_count_108 (by decide) ?_
    refine cl_vi (pc := 109) (As := [.int ((2 : Int32))]) (rest := []) C h (m_X9_jobsThat l D t a ((2 : Int32)) z1 _ hw) mw_X9_jobsThat lm_X9_326 md_X9_jobsThat rcM_0 ⟨by decide, by decide⟩ ⟨Nat.zero_le _, Nat.zero_le _⟩ hl.1 rfl (Nat.le_of_ble_eq_true rfl) dX9_count_109 (fun r8 z7 H locs hw h => ?_)
    exact rt_i (pc := 112) C hr hlk h hw dX9_count_112
  have nc2_0 := lv_neT (a := 0) c2_0 (by decide)
  have nc2_1 := lv_neT (a := 1) c2_1 (by decide)
  have nc2_2 := lv_neT (a := 2) c2_2 (by decide)
  have nc2_3 := lv_neT (a := 3) c2_3 (by decide)
  have nc2_4 := lv_neT (a := 4) c2_4 (by decide)
  have nc2_5 := lv_neT (a := 5) c2_5 (by decide)
  have nc2_6 := lv_neT (a := 6) c2_6 (by decide)
  have nc2_7 := lv_neT (a := 7) c2_7 (by decide)
  have nc2_8 := lv_neT (a := 8) c2_8 (by decide)
  have nc2_9 := lv_neT (a := 9) c2_9 (by decide)
  have hdc2 : b1.toInt < 0 ∨ 9 < b1.toInt := by omega
  have hw := hw.2.2.2.2.2.2.2.2.2.2 hdc2
  refine lv_tableOut (tgt := 113) (pc := 6) C.1 C.2.1 dX9_count_6 hdc2 (by decide) ?_
  refine lv_iconst (v := -1) (pc := 113) C.1 C.2.1 dX9_count_113 (by decide) ?_
  exact rt_i (pc := 114) C hr hlk h hw dX9_count_114

def wp_X9_status  (z : St) (P : Int32 → St → Prop) : Prop :=
  (∀ z1 : St, z1 = wI z 0 ((0 : Int32)) → P (gI z1 1) z1)
set_option maxHeartbeats 4000000 in
set_option maxRecDepth 100000 in
theorem m_X9_status (l : Launch) (D : va_G) (t : Ty3) (a : Nat → Nat)  (z : St) (P : Int32 → St → Prop) (hw : wp_X9_status z P) : CtI l D t yX9_status cX9_status 1 (some .int) 0 (wM t a) (wM t a z) [.ref (a 0)] P := by
  refine ctI_of (by decide) (Nat.le_of_ble_eq_true rfl) ?_
  intro p e s m args below meth c A ls C hr hlk h hl
  have hl : lv_has ls 1 [(0, .ref (a 0))] := hl
  unfold wp_X9_status at hw
  refine lv_aload_n (pc := 0) C.1 C.2.1 dX9_status_0 rfl (lv_at hl 0 rfl) ?_
  refine lv_iconst (v := 0) (pc := 1) C.1 C.2.1 dX9_status_1 (by decide) ?_
  refine PM_X9_131_0 (pc := 2) C h dX9_status_2 (fun z1 ez1 H locs h => ?_)
  have hw := hw z1 ez1
  refine lv_aload_n (pc := 5) C.1 C.2.1 dX9_status_5 rfl (lv_at hl 0 rfl) ?_
  refine GM_X9_134_0 (pc := 6) C h dX9_status_6 ?_
  exact rt_i (pc := 9) C hr hlk h hw dX9_status_9
