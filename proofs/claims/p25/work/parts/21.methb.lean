def wp_X8_job (b1 : Int32) (b2 : Int32) (b3 : Int32) (b4 : Int32) (b5 : Int32) (b6 : Int32) (b7 : Int32) (b8 : Int32) (z : St) (P : Int32 → St → Prop) : Prop :=
  (wp_X8_isHour b2 z (fun r2 => (∀ K3 : Prop, ((wp_X8_refuse ((-1 : Int32)) z (fun r5 z4 => P r5 z4)) → K3) → (((r2 = 0) → K3) ∧ (¬ (r2 = 0) → (wp_X8_isHour b3 z (fun r8 => (((r8 = 0) → K3) ∧ (¬ (r8 = 0) → (((b3 < b2) → K3) ∧ (¬ (b3 < b2) → (((((24 : Int32)) ≤ (b3 - b2)) → K3) ∧ (¬ (((24 : Int32)) ≤ (b3 - b2)) → (((b4 < ((1 : Int32))) → K3) ∧ (¬ (b4 < ((1 : Int32))) → (((b4 ≤ ((4 : Int32))) → (wp_X8_isNeed b5 z (fun r15 => (∀ K16 : Prop, ((wp_X8_refuse ((-1 : Int32)) z (fun r18 z17 => P r18 z17)) → K16) → (((r15 = 0) → K16) ∧ (¬ (r15 = 0) → (∀ K20 : Prop, ((∀ K21 : Prop, ((∀ K22 : Prop, ((wp_X0_has b1 z (fun r24 => (((¬ r24 = 0) → ((((gI z 1308) < ((16 : Int32))) → (wp_X1_add b1 b2 b3 b4 z (fun r28 z27 => (wp_X1_setNeeds r28 b5 b6 b7 b8 z27 (fun z29 => (wp_X8_accept r28 z29 (fun r32 z31 => P r32 z31))))))) ∧ (¬ ((gI z 1308) < ((16 : Int32))) → (wp_X8_refuse ((-5 : Int32)) z (fun r34 z33 => P r34 z33))))) ∧ (r24 = 0 → (wp_X8_refuse ((-2 : Int32)) z (fun r36 z35 => P r36 z35)))))) → K22) → (((b4 ≤ ((3 : Int32))) → K22) ∧ (¬ (b4 ≤ ((3 : Int32))) → (wp_X8_isNeed b8 z (fun r39 => (((¬ r39 = 0) → K22) ∧ (r39 = 0 → K16))))))) → K21) → (((b4 ≤ ((2 : Int32))) → K21) ∧ (¬ (b4 ≤ ((2 : Int32))) → (wp_X8_isNeed b7 z (fun r43 => (((r43 = 0) → K16) ∧ (¬ (r43 = 0) → K21))))))) → K20) → (((b4 ≤ ((1 : Int32))) → K20) ∧ (¬ (b4 ≤ ((1 : Int32))) → (wp_X8_isNeed b6 z (fun r47 => (((r47 = 0) → K16) ∧ (¬ (r47 = 0) → K20))))))))))))) ∧ (¬ (b4 ≤ ((4 : Int32))) → K3)))))))))))))))))
set_option maxHeartbeats 4000000 in
set_option maxRecDepth 100000 in
theorem m_X8_job (l : Launch) (D : va_G) (t : Ty3) (a : Nat → Nat) (b1 : Int32) (b2 : Int32) (b3 : Int32) (b4 : Int32) (b5 : Int32) (b6 : Int32) (b7 : Int32) (b8 : Int32) (z : St) (P : Int32 → St → Prop) (hw : wp_X8_job b1 b2 b3 b4 b5 b6 b7 b8 z P) : CtI l D t yX8_job cX8_job 10 (some .int) 2 (wX t a) (wX t a z) [.ref (a 0), .int b1, .int b2, .int b3, .int b4, .int b5, .int b6, .int b7, .int b8] P := by
  refine ctI_of (by decide) (Nat.le_of_ble_eq_true rfl) ?_
  intro p e s m args below meth c A ls C hr hlk h hl
  have hl : lv_has ls 10 [(0, .ref (a 0)), (1, .int b1), (2, .int b2), (3, .int b3), (4, .int b4), (5, .int b5), (6, .int b6), (7, .int b7), (8, .int b8)] := hl
  unfold wp_X8_job at hw
  refine lv_iload_n (pc := 0) C.1 C.2.1 dX8_job_0 rfl (lv_at hl 2 rfl) ?_
  refine cl_si (pc := 1) (As := [.int b2]) (rest := []) C h (m_X8_isHour l D t a b2 z _ hw) mw_X8_isHour lm_X8_71 md_X8_isHour ⟨by decide, by decide⟩ ⟨Nat.zero_le _, Nat.zero_le _⟩ hl.1 rfl (Nat.le_of_ble_eq_true rfl) dX8_job_1 (fun r2 z1 H locs hw h => ?_)
  rw [hw.1] at h
  have hw := hw.2
  have hw := hw (∀ (H : Heap) (locs : List Loc) (ls : Array Slot), wd D t A s (wX t a z) H locs → lv_has ls 10 [(0, .ref (a 0))] → W p l e (rmd 2) s m args below meth c H locs 0 0 (QI D t A (wX t a) P below args s) (F0 m 39 ls [])) (by
      intro hw H locs ls h hl
      refine lv_aload_n (pc := 39) C.1 C.2.1 dX8_job_39 rfl (lv_at hl 0 rfl) ?_
      refine lv_iconst (v := -1) (pc := 40) C.1 C.2.1 dX8_job_40 (by decide) ?_
      refine cl_vi (pc := 41) (As := [.int ((-1 : Int32))]) (rest := []) C h (m_X8_refuse l D t a ((-1 : Int32)) z _ hw) mw_X8_refuse lm_X8_81 md_X8_refuse rcX_0 ⟨by decide, by decide⟩ ⟨Nat.zero_le _, Nat.zero_le _⟩ hl.1 rfl (Nat.le_of_ble_eq_true rfl) dX8_job_41 (fun r5 z4 H locs hw h => ?_)
      exact rt_i (pc := 44) C hr hlk h hw dX8_job_44)
  refine lv_if_eq (tgt := 39) (pc := 4) C.1 C.2.1 dX8_job_4 (by decide) (fun c6 => ?_) (fun c6 => ?_)
  · have hw := hw.1 c6
    exact hw _ _ _ h (lv_sub hl [0] rfl)
  · have hw := hw.2 c6
    refine lv_iload_n (pc := 7) C.1 C.2.1 dX8_job_7 rfl (lv_at hl 3 rfl) ?_
    refine cl_si (pc := 8) (As := [.int b3]) (rest := []) C h (m_X8_isHour l D t a b3 z _ hw) mw_X8_isHour lm_X8_71 md_X8_isHour ⟨by decide, by decide⟩ ⟨Nat.zero_le _, Nat.zero_le _⟩ hl.1 rfl (Nat.le_of_ble_eq_true rfl) dX8_job_8 (fun r8 z7 H locs hw h => ?_)
    rw [hw.1] at h
    have hw := hw.2
    refine lv_if_eq (tgt := 39) (pc := 11) C.1 C.2.1 dX8_job_11 (by decide) (fun c9 => ?_) (fun c9 => ?_)
    · have hw := hw.1 c9
      exact hw _ _ _ h (lv_sub hl [0] rfl)
    · have hw := hw.2 c9
      refine lv_iload_n (pc := 14) C.1 C.2.1 dX8_job_14 rfl (lv_at hl 3 rfl) ?_
      refine lv_iload_n (pc := 15) C.1 C.2.1 dX8_job_15 rfl (lv_at hl 2 rfl) ?_
      refine lv_icmp_lt (tgt := 39) (pc := 16) C.1 C.2.1 dX8_job_16 (by decide) (fun c10 => ?_) (fun c10 => ?_)
      · have hw := hw.1 c10
        exact hw _ _ _ h (lv_sub hl [0] rfl)
      · have hw := hw.2 c10
        refine lv_iload_n (pc := 19) C.1 C.2.1 dX8_job_19 rfl (lv_at hl 3 rfl) ?_
        refine lv_iload_n (pc := 20) C.1 C.2.1 dX8_job_20 rfl (lv_at hl 2 rfl) ?_
        refine lv_isub (pc := 21) C.1 C.2.1 dX8_job_21 ?_
        refine lv_bipush (v := 24) (pc := 22) C.1 C.2.1 dX8_job_22 (by decide) ?_
        refine lv_icmp_ge (tgt := 39) (pc := 24) C.1 C.2.1 dX8_job_24 (by decide) (fun c11 => ?_) (fun c11 => ?_)
        · have hw := hw.1 c11
          exact hw _ _ _ h (lv_sub hl [0] rfl)
        · have hw := hw.2 c11
          refine lv_iload (pc := 27) C.1 C.2.1 dX8_job_27 (lv_at hl 4 rfl) ?_
          refine lv_iconst (v := 1) (pc := 29) C.1 C.2.1 dX8_job_29 (by decide) ?_
          refine lv_icmp_lt (tgt := 39) (pc := 30) C.1 C.2.1 dX8_job_30 (by decide) (fun c12 => ?_) (fun c12 => ?_)
          · have hw := hw.1 c12
            exact hw _ _ _ h (lv_sub hl [0] rfl)
          · have hw := hw.2 c12
            refine lv_iload (pc := 33) C.1 C.2.1 dX8_job_33 (lv_at hl 4 rfl) ?_
            refine lv_iconst (v := 4) (pc := 35) C.1 C.2.1 dX8_job_35 (by decide) ?_
            refine lv_icmp_le (tgt := 45) (pc := 36) C.1 C.2.1 dX8_job_36 (by decide) (fun c13 => ?_) (fun c13 => ?_)
            · have hw := hw.1 c13
              refine lv_iload (pc := 45) C.1 C.2.1 dX8_job_45 (lv_at hl 5 rfl) ?_
              refine cl_si (pc := 47) (As := [.int b5]) (rest := []) C h (m_X8_isNeed l D t a b5 z _ hw) mw_X8_isNeed lm_X8_131 md_X8_isNeed ⟨by decide, by decide⟩ ⟨Nat.zero_le _, Nat.zero_le _⟩ hl.1 rfl (Nat.le_of_ble_eq_true rfl) dX8_job_47 (fun r15 z14 H locs hw h => ?_)
              rw [hw.1] at h
              have hw := hw.2
              have hw := hw (∀ (H : Heap) (locs : List Loc) (ls : Array Slot), wd D t A s (wX t a z) H locs → lv_has ls 10 [(0, .ref (a 0))] → W p l e (rmd 2) s m args below meth c H locs 0 0 (QI D t A (wX t a) P below args s) (F0 m 95 ls [])) (by
                  intro hw H locs ls h hl
                  refine lv_aload_n (pc := 95) C.1 C.2.1 dX8_job_95 rfl (lv_at hl 0 rfl) ?_
                  refine lv_iconst (v := -1) (pc := 96) C.1 C.2.1 dX8_job_96 (by decide) ?_
                  refine cl_vi (pc := 97) (As := [.int ((-1 : Int32))]) (rest := []) C h (m_X8_refuse l D t a ((-1 : Int32)) z _ hw) mw_X8_refuse lm_X8_81 md_X8_refuse rcX_0 ⟨by decide, by decide⟩ ⟨Nat.zero_le _, Nat.zero_le _⟩ hl.1 rfl (Nat.le_of_ble_eq_true rfl) dX8_job_97 (fun r18 z17 H locs hw h => ?_)
                  exact rt_i (pc := 100) C hr hlk h hw dX8_job_100)
              refine lv_if_eq (tgt := 95) (pc := 50) C.1 C.2.1 dX8_job_50 (by decide) (fun c19 => ?_) (fun c19 => ?_)
              · have hw := hw.1 c19
                exact hw _ _ _ h (lv_sub hl [0] rfl)
              · have hw := hw.2 c19
                refine lv_iload (pc := 53) C.1 C.2.1 dX8_job_53 (lv_at hl 4 rfl) ?_
                refine lv_iconst (v := 1) (pc := 55) C.1 C.2.1 dX8_job_55 (by decide) ?_
                have hw := hw (∀ (H : Heap) (locs : List Loc) (ls : Array Slot), wd D t A s (wX t a z) H locs → lv_has ls 10 [(0, .ref (a 0)), (1, .int b1), (2, .int b2), (3, .int b3), (4, .int b4), (5, .int b5), (6, .int b6), (7, .int b7), (8, .int b8)] → W p l e (rmd 2) s m args below meth c H locs 0 0 (QI D t A (wX t a) P below args s) (F0 m 67 ls [])) (by
                    intro hw H locs ls h hl
                    refine lv_iload (pc := 67) C.1 C.2.1 dX8_job_67 (lv_at hl 4 rfl) ?_
                    refine lv_iconst (v := 2) (pc := 69) C.1 C.2.1 dX8_job_69 (by decide) ?_
                    have hw := hw (∀ (H : Heap) (locs : List Loc) (ls : Array Slot), wd D t A s (wX t a z) H locs → lv_has ls 10 [(0, .ref (a 0)), (1, .int b1), (2, .int b2), (3, .int b3), (4, .int b4), (5, .int b5), (6, .int b6), (7, .int b7), (8, .int b8)] → W p l e (rmd 2) s m args below meth c H locs 0 0 (QI D t A (wX t a) P below args s) (F0 m 81 ls [])) (by
                        intro hw H locs ls h hl
                        refine lv_iload (pc := 81) C.1 C.2.1 dX8_job_81 (lv_at hl 4 rfl) ?_
                        refine lv_iconst (v := 3) (pc := 83) C.1 C.2.1 dX8_job_83 (by decide) ?_
                        have hw := hw (∀ (H : Heap) (locs : List Loc) (ls : Array Slot), wd D t A s (wX t a z) H locs → lv_has ls 10 [(0, .ref (a 0)), (1, .int b1), (2, .int b2), (3, .int b3), (4, .int b4), (5, .int b5), (6, .int b6), (7, .int b7), (8, .int b8)] → W p l e (rmd 2) s m args below meth c H locs 0 0 (QI D t A (wX t a) P below args s) (F0 m 101 ls [])) (by
                            intro hw H locs ls h hl
                            refine lv_aload_n (pc := 101) C.1 C.2.1 dX8_job_101 rfl (lv_at hl 0 rfl) ?_
                            refine GX_X8_19_0 (pc := 102) C h dX8_job_102 ?_
                            refine lv_iload_n (pc := 105) C.1 C.2.1 dX8_job_105 rfl (lv_at hl 1 rfl) ?_
                            refine cl_vi (pc := 106) (As := [.int b1]) (rest := []) C h (m_X0_has l D t a b1 z _ hw) mw_X0_has lm_X8_121 md_X0_has rcX_7 ⟨by decide, by decide⟩ ⟨Nat.zero_le _, Nat.zero_le _⟩ hl.1 rfl (Nat.le_of_ble_eq_true rfl) dX8_job_106 (fun r24 z23 H locs hw h => ?_)
                            rw [hw.1] at h
                            have hw := hw.2
                            refine lv_if_ne (tgt := 119) (pc := 109) C.1 C.2.1 dX8_job_109 (by decide) (fun c25 => ?_) (fun c25 => ?_)
                            · have hw := hw.1 c25
                              refine lv_aload_n (pc := 119) C.1 C.2.1 dX8_job_119 rfl (lv_at hl 0 rfl) ?_
                              refine GX_X8_28_0 (pc := 120) C h dX8_job_120 ?_
                              refine GX_X8_134_13 (pc := 123) C h dX8_job_123 ?_
                              refine lv_bipush (v := 16) (pc := 126) C.1 C.2.1 dX8_job_126 (by decide) ?_
                              refine lv_icmp_lt (tgt := 138) (pc := 128) C.1 C.2.1 dX8_job_128 (by decide) (fun c26 => ?_) (fun c26 => ?_)
                              · have hw := hw.1 c26
                                refine lv_aload_n (pc := 138) C.1 C.2.1 dX8_job_138 rfl (lv_at hl 0 rfl) ?_
                                refine GX_X8_28_0 (pc := 139) C h dX8_job_139 ?_
                                refine lv_iload_n (pc := 142) C.1 C.2.1 dX8_job_142 rfl (lv_at hl 1 rfl) ?_
                                refine lv_iload_n (pc := 143) C.1 C.2.1 dX8_job_143 rfl (lv_at hl 2 rfl) ?_
                                refine lv_iload_n (pc := 144) C.1 C.2.1 dX8_job_144 rfl (lv_at hl 3 rfl) ?_
                                refine lv_iload (pc := 145) C.1 C.2.1 dX8_job_145 (lv_at hl 4 rfl) ?_
                                refine cl_vi (pc := 147) (As := [.int b1, .int b2, .int b3, .int b4]) (rest := []) C h (m_X1_add l D t a b1 b2 b3 b4 z _ hw) mw_X1_add lm_X8_135 md_X1_add rcX_13 ⟨by decide, by decide⟩ ⟨Nat.zero_le _, Nat.zero_le _⟩ hl.1 rfl (Nat.le_of_ble_eq_true rfl) dX8_job_147 (fun r28 z27 H locs hw h => ?_)
                                refine lv_istore (lv' := [(9, .int r28), (0, .ref (a 0)), (1, .int b1), (2, .int b2), (3, .int b3), (4, .int b4), (5, .int b5), (6, .int b6), (7, .int b7), (8, .int b8)]) (pc := 150) C.1 C.2.1 dX8_job_150 hl (by decide) rfl (fun ls hl => ?_)
                                refine lv_aload_n (pc := 152) C.1 C.2.1 dX8_job_152 rfl (lv_at hl 1 rfl) ?_
                                refine GX_X8_28_0 (pc := 153) C h dX8_job_153 ?_
                                refine lv_iload (pc := 156) C.1 C.2.1 dX8_job_156 (lv_at hl 0 rfl) ?_
                                refine lv_iload (pc := 158) C.1 C.2.1 dX8_job_158 (lv_at hl 6 rfl) ?_
                                refine lv_iload (pc := 160) C.1 C.2.1 dX8_job_160 (lv_at hl 7 rfl) ?_
                                refine lv_iload (pc := 162) C.1 C.2.1 dX8_job_162 (lv_at hl 8 rfl) ?_
                                refine lv_iload (pc := 164) C.1 C.2.1 dX8_job_164 (lv_at hl 9 rfl) ?_
                                refine cl_vv (pc := 166) (As := [.int r28, .int b5, .int b6, .int b7, .int b8]) (rest := []) C h (m_X1_setNeeds l D t a r28 b5 b6 b7 b8 z27 _ hw) mw_X1_setNeeds lm_X8_139 md_X1_setNeeds rcX_13 ⟨by decide, by decide⟩ ⟨Nat.zero_le _, Nat.zero_le _⟩ hl.1 rfl (Nat.le_of_ble_eq_true rfl) dX8_job_166 (fun z29 H locs hw h => ?_)
                                refine lv_aload_n (pc := 169) C.1 C.2.1 dX8_job_169 rfl (lv_at hl 1 rfl) ?_
                                refine lv_iload (pc := 170) C.1 C.2.1 dX8_job_170 (lv_at hl 0 rfl) ?_
                                refine cl_vi (pc := 172) (As := [.int r28]) (rest := []) C h (m_X8_accept l D t a r28 z29 _ hw) mw_X8_accept lm_X8_99 md_X8_accept rcX_0 ⟨by decide, by decide⟩ ⟨Nat.zero_le _, Nat.zero_le _⟩ hl.1 rfl (Nat.le_of_ble_eq_true rfl) dX8_job_172 (fun r32 z31 H locs hw h => ?_)
                                exact rt_i (pc := 175) C hr hlk h hw dX8_job_175
                              · have hw := hw.2 c26
                                refine lv_aload_n (pc := 131) C.1 C.2.1 dX8_job_131 rfl (lv_at hl 0 rfl) ?_
                                refine lv_bipush (v := -5) (pc := 132) C.1 C.2.1 dX8_job_132 (by decide) ?_
                                refine cl_vi (pc := 134) (As := [.int ((-5 : Int32))]) (rest := []) C h (m_X8_refuse l D t a ((-5 : Int32)) z _ hw) mw_X8_refuse lm_X8_81 md_X8_refuse rcX_0 ⟨by decide, by decide⟩ ⟨Nat.zero_le _, Nat.zero_le _⟩ hl.1 rfl (Nat.le_of_ble_eq_true rfl) dX8_job_134 (fun r34 z33 H locs hw h => ?_)
                                exact rt_i (pc := 137) C hr hlk h hw dX8_job_137
                            · have hw := hw.2 c25
                              refine lv_aload_n (pc := 112) C.1 C.2.1 dX8_job_112 rfl (lv_at hl 0 rfl) ?_
                              refine lv_bipush (v := -2) (pc := 113) C.1 C.2.1 dX8_job_113 (by decide) ?_
                              refine cl_vi (pc := 115) (As := [.int ((-2 : Int32))]) (rest := []) C h (m_X8_refuse l D t a ((-2 : Int32)) z _ hw) mw_X8_refuse lm_X8_81 md_X8_refuse rcX_0 ⟨by decide, by decide⟩ ⟨Nat.zero_le _, Nat.zero_le _⟩ hl.1 rfl (Nat.le_of_ble_eq_true rfl) dX8_job_115 (fun r36 z35 H locs hw h => ?_)
                              exact rt_i (pc := 118) C hr hlk h hw dX8_job_118)
                        refine lv_icmp_le (tgt := 101) (pc := 84) C.1 C.2.1 dX8_job_84 (by decide) (fun c37 => ?_) (fun c37 => ?_)
                        · have hw := hw.1 c37
                          exact hw _ _ _ h (lv_sub hl [0, 1, 2, 3, 4, 5, 6, 7, 8] rfl)
                        · have hw := hw.2 c37
                          refine lv_iload (pc := 87) C.1 C.2.1 dX8_job_87 (lv_at hl 8 rfl) ?_
                          refine cl_si (pc := 89) (As := [.int b8]) (rest := []) C h (m_X8_isNeed l D t a b8 z _ hw) mw_X8_isNeed lm_X8_131 md_X8_isNeed ⟨by decide, by decide⟩ ⟨Nat.zero_le _, Nat.zero_le _⟩ hl.1 rfl (Nat.le_of_ble_eq_true rfl) dX8_job_89 (fun r39 z38 H locs hw h => ?_)
                          rw [hw.1] at h
                          have hw := hw.2
                          refine lv_if_ne (tgt := 101) (pc := 92) C.1 C.2.1 dX8_job_92 (by decide) (fun c40 => ?_) (fun c40 => ?_)
                          · have hw := hw.1 c40
                            exact hw _ _ _ h (lv_sub hl [0, 1, 2, 3, 4, 5, 6, 7, 8] rfl)
                          · have hw := hw.2 c40
                            exact hw _ _ _ h (lv_sub hl [0] rfl))
                    refine lv_icmp_le (tgt := 81) (pc := 70) C.1 C.2.1 dX8_job_70 (by decide) (fun c41 => ?_) (fun c41 => ?_)
                    · have hw := hw.1 c41
                      exact hw _ _ _ h (lv_sub hl [0, 1, 2, 3, 4, 5, 6, 7, 8] rfl)
                    · have hw := hw.2 c41
                      refine lv_iload (pc := 73) C.1 C.2.1 dX8_job_73 (lv_at hl 7 rfl) ?_
                      refine cl_si (pc := 75) (As := [.int b7]) (rest := []) C h (m_X8_isNeed l D t a b7 z _ hw) mw_X8_isNeed lm_X8_131 md_X8_isNeed ⟨by decide, by decide⟩ ⟨Nat.zero_le _, Nat.zero_le _⟩ hl.1 rfl (Nat.le_of_ble_eq_true rfl) dX8_job_75 (fun r43 z42 H locs hw h => ?_)
                      rw [hw.1] at h
                      have hw := hw.2
                      refine lv_if_eq (tgt := 95) (pc := 78) C.1 C.2.1 dX8_job_78 (by decide) (fun c44 => ?_) (fun c44 => ?_)
                      · have hw := hw.1 c44
                        exact hw _ _ _ h (lv_sub hl [0] rfl)
                      · have hw := hw.2 c44
                        exact hw _ _ _ h (lv_sub hl [0, 1, 2, 3, 4, 5, 6, 7, 8] rfl))
                refine lv_icmp_le (tgt := 67) (pc := 56) C.1 C.2.1 dX8_job_56 (by decide) (fun c45 => ?_) (fun c45 => ?_)
                · have hw := hw.1 c45
                  exact hw _ _ _ h (lv_sub hl [0, 1, 2, 3, 4, 5, 6, 7, 8] rfl)
                · have hw := hw.2 c45
                  refine lv_iload (pc := 59) C.1 C.2.1 dX8_job_59 (lv_at hl 6 rfl) ?_
                  refine cl_si (pc := 61) (As := [.int b6]) (rest := []) C h (m_X8_isNeed l D t a b6 z _ hw) mw_X8_isNeed lm_X8_131 md_X8_isNeed ⟨by decide, by decide⟩ ⟨Nat.zero_le _, Nat.zero_le _⟩ hl.1 rfl (Nat.le_of_ble_eq_true rfl) dX8_job_61 (fun r47 z46 H locs hw h => ?_)
                  rw [hw.1] at h
                  have hw := hw.2
                  refine lv_if_eq (tgt := 95) (pc := 64) C.1 C.2.1 dX8_job_64 (by decide) (fun c48 => ?_) (fun c48 => ?_)
                  · have hw := hw.1 c48
                    exact hw _ _ _ h (lv_sub hl [0] rfl)
                  · have hw := hw.2 c48
                    exact hw _ _ _ h (lv_sub hl [0, 1, 2, 3, 4, 5, 6, 7, 8] rfl)
            · have hw := hw.2 c13
              exact hw _ _ _ h (lv_sub hl [0] rfl)

def wp_X1_has (b1 : Int32) (z : St) (P : Int32 → Prop) : Prop :=
  (((b1 < 0) → P ((0 : Int32))) ∧ (¬ (b1 < 0) → ((((gI z 1308) ≤ b1) → P ((0 : Int32))) ∧ (¬ ((gI z 1308) ≤ b1) → P ((1 : Int32))))))
set_option maxHeartbeats 4000000 in
set_option maxRecDepth 100000 in
theorem m_X1_has (l : Launch) (D : va_G) (t : Ty3) (a : Nat → Nat) (b1 : Int32) (z : St) (P : Int32 → Prop) (hw : wp_X1_has b1 z P) : CtI l D t yX1_has cX1_has 2 (some .boolean) 0 (wX t a) (wX t a z) [.ref (a 13), .int b1] (fun rr zz => zz = z ∧ P rr) := by
  refine ctI_of (by decide) (Nat.le_of_ble_eq_true rfl) ?_
  intro p e s m args below meth c A ls C hr hlk h hl
  have hl : lv_has ls 2 [(0, .ref (a 13)), (1, .int b1)] := hl
  unfold wp_X1_has at hw
  refine lv_iload_n (pc := 0) C.1 C.2.1 dX1_has_0 rfl (lv_at hl 1 rfl) ?_
  refine lv_if_lt (tgt := 16) (pc := 1) C.1 C.2.1 dX1_has_1 (by decide) (fun c1 => ?_) (fun c1 => ?_)
  · have hw := hw.1 c1
    refine lv_iconst (v := 0) (pc := 16) C.1 C.2.1 dX1_has_16 (by decide) ?_
    exact rt_z (pc := 17) C hr hlk h (Or.inl rfl) ⟨rfl, hw⟩ dX1_has_17
  · have hw := hw.2 c1
    refine lv_iload_n (pc := 4) C.1 C.2.1 dX1_has_4 rfl (lv_at hl 1 rfl) ?_
    refine lv_aload_n (pc := 5) C.1 C.2.1 dX1_has_5 rfl (lv_at hl 0 rfl) ?_
    refine GX_X1_37_13 (pc := 6) C h dX1_has_6 ?_
    refine lv_icmp_ge (tgt := 16) (pc := 9) C.1 C.2.1 dX1_has_9 (by decide) (fun c2 => ?_) (fun c2 => ?_)
    · have hw := hw.1 c2
      refine lv_iconst (v := 0) (pc := 16) C.1 C.2.1 dX1_has_16 (by decide) ?_
      exact rt_z (pc := 17) C hr hlk h (Or.inl rfl) ⟨rfl, hw⟩ dX1_has_17
    · have hw := hw.2 c2
      refine lv_iconst (v := 1) (pc := 12) C.1 C.2.1 dX1_has_12 (by decide) ?_
      refine lv_goto (tgt := 17) (pc := 13) C.1 C.2.1 dX1_has_13 (by decide) ?_
      exact rt_z (pc := 17) C hr hlk h (Or.inr rfl) ⟨rfl, hw⟩ dX1_has_17

def wp_X8_of (b1 : Int32) (b2 : Int32) (z : St) (P : Int32 → Prop) : Prop :=
  (wp_X1_has b1 z (fun r2 => (((¬ r2 = 0) → ((b2 = 0 → (vp_in b1 16 ∧ P (gF z 14 b1.toNatClampNeg))) ∧ (b2 = 1 → (vp_in b1 16 ∧ P (gF z 15 b1.toNatClampNeg))) ∧ (b2 = 2 → (vp_in b1 16 ∧ P (gF z 16 b1.toNatClampNeg))) ∧ (b2 = 3 → (vp_in b1 16 ∧ P (gF z 17 b1.toNatClampNeg))) ∧ (b2 = 4 → (vp_in b1 16 ∧ P (gF z 19 b1.toNatClampNeg))) ∧ (b2 = 5 → (vp_in b1 16 ∧ P (gF z 20 b1.toNatClampNeg))) ∧ ((b2.toInt < 0 ∨ 5 < b2.toInt) → (((b2 < ((10 : Int32))) → P ((-1 : Int32))) ∧ (¬ (b2 < ((10 : Int32))) → (vp_in b1 16 ∧ ((((((10 : Int32)) + (gF z 17 b1.toNatClampNeg)) ≤ b2) → P ((-1 : Int32))) ∧ (¬ ((((10 : Int32)) + (gF z 17 b1.toNatClampNeg)) ≤ b2) → (vp_in (((b1 * ((4 : Int32))) + b2) - ((10 : Int32))) 64 ∧ P (gF z 18 (((b1 * ((4 : Int32))) + b2) - ((10 : Int32))).toNatClampNeg)))))))))) ∧ (r2 = 0 → P ((-1 : Int32))))))
set_option maxHeartbeats 4000000 in
set_option maxRecDepth 100000 in
theorem m_X8_of (l : Launch) (D : va_G) (t : Ty3) (a : Nat → Nat) (b1 : Int32) (b2 : Int32) (z : St) (P : Int32 → Prop) (hw : wp_X8_of b1 b2 z P) : CtI l D t yX8_of cX8_of 3 (some .int) 1 (wX t a) (wX t a z) [.ref (a 0), .int b1, .int b2] (fun rr zz => zz = z ∧ P rr) := by
  refine ctI_of (by decide) (Nat.le_of_ble_eq_true rfl) ?_
  intro p e s m args below meth c A ls C hr hlk h hl
  have hl : lv_has ls 3 [(0, .ref (a 0)), (1, .int b1), (2, .int b2)] := hl
  unfold wp_X8_of at hw
  refine lv_aload_n (pc := 0) C.1 C.2.1 dX8_of_0 rfl (lv_at hl 0 rfl) ?_
  refine GX_X8_28_0 (pc := 1) C h dX8_of_1 ?_
  refine lv_iload_n (pc := 4) C.1 C.2.1 dX8_of_4 rfl (lv_at hl 1 rfl) ?_
  refine cl_vi (pc := 5) (As := [.int b1]) (rest := []) C h (m_X1_has l D t a b1 z _ hw) mw_X1_has lm_X8_143 md_X1_has rcX_13 ⟨by decide, by decide⟩ ⟨Nat.zero_le _, Nat.zero_le _⟩ hl.1 rfl (Nat.le_of_ble_eq_true rfl) dX8_of_5 (fun r2 z1 H locs hw h => ?_)
  rw [hw.1] at h
  have hw := hw.2
  refine lv_if_ne (tgt := 13) (pc := 8) C.1 C.2.1 dX8_of_8 (by decide) (fun c3 => ?_) (fun c3 => ?_)
  · have hw := hw.1 c3
    refine lv_iload_n (pc := 13) C.1 C.2.1 dX8_of_13 rfl (lv_at hl 2 rfl) ?_
    by_cases c4_0 : b2 = 0
    · have hw := hw.1 c4_0
      refine lv_tableIn (off := 38) (tgt := 52) (pc := 14) C.1 C.2.1 dX8_of_14 (by rw [c4_0]; decide) (by rw [c4_0]; decide) (by rw [c4_0]; rfl) (by decide) ?_
      refine lv_aload_n (pc := 52) C.1 C.2.1 dX8_of_52 rfl (lv_at hl 0 rfl) ?_
      refine GX_X8_28_0 (pc := 53) C h dX8_of_53 ?_
      refine GX_X8_144_13 (pc := 56) C h dX8_of_56 ?_
      refine lv_iload_n (pc := 59) C.1 C.2.1 dX8_of_59 rfl (lv_at hl 1 rfl) ?_
      refine ldX_14 (pc := 60) C h hw.1 dX8_of_60 ?_
      have hw := hw.2
      exact rt_i (pc := 61) C hr hlk h ⟨rfl, hw⟩ dX8_of_61
    by_cases c4_1 : b2 = 1
    · have hw := hw.2.1 c4_1
      refine lv_tableIn (off := 48) (tgt := 62) (pc := 14) C.1 C.2.1 dX8_of_14 (by rw [c4_1]; decide) (by rw [c4_1]; decide) (by rw [c4_1]; rfl) (by decide) ?_
      refine lv_aload_n (pc := 62) C.1 C.2.1 dX8_of_62 rfl (lv_at hl 0 rfl) ?_
      refine GX_X8_28_0 (pc := 63) C h dX8_of_63 ?_
      refine GX_X8_147_13 (pc := 66) C h dX8_of_66 ?_
      refine lv_iload_n (pc := 69) C.1 C.2.1 dX8_of_69 rfl (lv_at hl 1 rfl) ?_
      refine ldX_15 (pc := 70) C h hw.1 dX8_of_70 ?_
      have hw := hw.2
      exact rt_i (pc := 71) C hr hlk h ⟨rfl, hw⟩ dX8_of_71
    by_cases c4_2 : b2 = 2
    · have hw := hw.2.2.1 c4_2
      refine lv_tableIn (off := 58) (tgt := 72) (pc := 14) C.1 C.2.1 dX8_of_14 (by rw [c4_2]; decide) (by rw [c4_2]; decide) (by rw [c4_2]; rfl) (by decide) ?_
      refine lv_aload_n (pc := 72) C.1 C.2.1 dX8_of_72 rfl (lv_at hl 0 rfl) ?_
      refine GX_X8_28_0 (pc := 73) C h dX8_of_73 ?_
      refine GX_X8_150_13 (pc := 76) C h dX8_of_76 ?_
      refine lv_iload_n (pc := 79) C.1 C.2.1 dX8_of_79 rfl (lv_at hl 1 rfl) ?_
      refine ldX_16 (pc := 80) C h hw.1 dX8_of_80 ?_
      have hw := hw.2
      exact rt_i (pc := 81) C hr hlk h ⟨rfl, hw⟩ dX8_of_81
    by_cases c4_3 : b2 = 3
    · have hw := hw.2.2.2.1 c4_3
      refine lv_tableIn (off := 68) (tgt := 82) (pc := 14) C.1 C.2.1 dX8_of_14 (by rw [c4_3]; decide) (by rw [c4_3]; decide) (by rw [c4_3]; rfl) (by decide) ?_
      refine lv_aload_n (pc := 82) C.1 C.2.1 dX8_of_82 rfl (lv_at hl 0 rfl) ?_
      refine GX_X8_28_0 (pc := 83) C h dX8_of_83 ?_
      refine GX_X8_153_13 (pc := 86) C h dX8_of_86 ?_
      refine lv_iload_n (pc := 89) C.1 C.2.1 dX8_of_89 rfl (lv_at hl 1 rfl) ?_
      refine ldX_17 (pc := 90) C h hw.1 dX8_of_90 ?_
      have hw := hw.2
      exact rt_i (pc := 91) C hr hlk h ⟨rfl, hw⟩ dX8_of_91
    by_cases c4_4 : b2 = 4
    · have hw := hw.2.2.2.2.1 c4_4
      refine lv_tableIn (off := 78) (tgt := 92) (pc := 14) C.1 C.2.1 dX8_of_14 (by rw [c4_4]; decide) (by rw [c4_4]; decide) (by rw [c4_4]; rfl) (by decide) ?_
      refine lv_aload_n (pc := 92) C.1 C.2.1 dX8_of_92 rfl (lv_at hl 0 rfl) ?_
      refine GX_X8_28_0 (pc := 93) C h dX8_of_93 ?_
      refine GX_X8_156_13 (pc := 96) C h dX8_of_96 ?_
      refine lv_iload_n (pc := 99) C.1 C.2.1 dX8_of_99 rfl (lv_at hl 1 rfl) ?_
      refine ldX_19 (pc := 100) C h hw.1 dX8_of_100 ?_
      have hw := hw.2
      exact rt_i (pc := 101) C hr hlk h ⟨rfl, hw⟩ dX8_of_101
    by_cases c4_5 : b2 = 5
    · have hw := hw.2.2.2.2.2.1 c4_5
      refine lv_tableIn (off := 88) (tgt := 102) (pc := 14) C.1 C.2.1 dX8_of_14 (by rw [c4_5]; decide) (by rw [c4_5]; decide) (by rw [c4_5]; rfl) (by decide) ?_
      refine lv_aload_n (pc := 102) C.1 C.2.1 dX8_of_102 rfl (lv_at hl 0 rfl) ?_
      refine GX_X8_28_0 (pc := 103) C h dX8_of_103 ?_
      refine GX_X8_159_13 (pc := 106) C h dX8_of_106 ?_
      refine lv_iload_n (pc := 109) C.1 C.2.1 dX8_of_109 rfl (lv_at hl 1 rfl) ?_
      refine ldX_20 (pc := 110) C h hw.1 dX8_of_110 ?_
      have hw := hw.2
      exact rt_i (pc := 111) C hr hlk h ⟨rfl, hw⟩ dX8_of_111
    have nc4_0 := lv_neT (a := 0) c4_0 (by decide)
    have nc4_1 := lv_neT (a := 1) c4_1 (by decide)
    have nc4_2 := lv_neT (a := 2) c4_2 (by decide)
    have nc4_3 := lv_neT (a := 3) c4_3 (by decide)
    have nc4_4 := lv_neT (a := 4) c4_4 (by decide)
    have nc4_5 := lv_neT (a := 5) c4_5 (by decide)
    have hdc4 : b2.toInt < 0 ∨ 5 < b2.toInt := by omega
    have hw := hw.2.2.2.2.2.2 hdc4
    refine lv_tableOut (tgt := 112) (pc := 14) C.1 C.2.1 dX8_of_14 hdc4 (by decide) ?_
    refine lv_iload_n (pc := 112) C.1 C.2.1 dX8_of_112 rfl (lv_at hl 2 rfl) ?_
    refine lv_bipush (v := 10) (pc := 113) C.1 C.2.1 dX8_of_113 (by decide) ?_
    refine lv_icmp_lt (tgt := 153) (pc := 115) C.1 C.2.1 dX8_of_115 (by decide) (fun c5 => ?_) (fun c5 => ?_)
    · have hw := hw.1 c5
      refine lv_iconst (v := -1) (pc := 153) C.1 C.2.1 dX8_of_153 (by decide) ?_
      exact rt_i (pc := 154) C hr hlk h ⟨rfl, hw⟩ dX8_of_154
    · have hw := hw.2 c5
      refine lv_iload_n (pc := 118) C.1 C.2.1 dX8_of_118 rfl (lv_at hl 2 rfl) ?_
      refine lv_bipush (v := 10) (pc := 119) C.1 C.2.1 dX8_of_119 (by decide) ?_
      refine lv_aload_n (pc := 121) C.1 C.2.1 dX8_of_121 rfl (lv_at hl 0 rfl) ?_
      refine GX_X8_28_0 (pc := 122) C h dX8_of_122 ?_
      refine GX_X8_153_13 (pc := 125) C h dX8_of_125 ?_
      refine lv_iload_n (pc := 128) C.1 C.2.1 dX8_of_128 rfl (lv_at hl 1 rfl) ?_
      refine ldX_17 (pc := 129) C h hw.1 dX8_of_129 ?_
      have hw := hw.2
      refine lv_iadd (pc := 130) C.1 C.2.1 dX8_of_130 ?_
      refine lv_icmp_ge (tgt := 153) (pc := 131) C.1 C.2.1 dX8_of_131 (by decide) (fun c6 => ?_) (fun c6 => ?_)
      · have hw := hw.1 c6
        refine lv_iconst (v := -1) (pc := 153) C.1 C.2.1 dX8_of_153 (by decide) ?_
        exact rt_i (pc := 154) C hr hlk h ⟨rfl, hw⟩ dX8_of_154
      · have hw := hw.2 c6
        refine lv_aload_n (pc := 134) C.1 C.2.1 dX8_of_134 rfl (lv_at hl 0 rfl) ?_
        refine GX_X8_28_0 (pc := 135) C h dX8_of_135 ?_
        refine GX_X8_162_13 (pc := 138) C h dX8_of_138 ?_
        refine lv_iload_n (pc := 141) C.1 C.2.1 dX8_of_141 rfl (lv_at hl 1 rfl) ?_
        refine lv_iconst (v := 4) (pc := 142) C.1 C.2.1 dX8_of_142 (by decide) ?_
        refine lv_imul (pc := 143) C.1 C.2.1 dX8_of_143 ?_
        refine lv_iload_n (pc := 144) C.1 C.2.1 dX8_of_144 rfl (lv_at hl 2 rfl) ?_
        refine lv_iadd (pc := 145) C.1 C.2.1 dX8_of_145 ?_
        refine lv_bipush (v := 10) (pc := 146) C.1 C.2.1 dX8_of_146 (by decide) ?_
        refine lv_isub (pc := 148) C.1 C.2.1 dX8_of_148 ?_
        refine ldX_18 (pc := 149) C h hw.1 dX8_of_149 ?_
        have hw := hw.2
        refine lv_goto (tgt := 154) (pc := 150) C.1 C.2.1 dX8_of_150 (by decide) ?_
        exact rt_i (pc := 154) C hr hlk h ⟨rfl, hw⟩ dX8_of_154
  · have hw := hw.2 c3
    refine lv_iconst (v := -1) (pc := 11) C.1 C.2.1 dX8_of_11 (by decide) ?_
    exact rt_i (pc := 12) C hr hlk h ⟨rfl, hw⟩ dX8_of_12

def wp_X0_draw (b1 : Int32) (b2 : Int32) (b3 : Int32) (z : St) (P : St → Prop) : Prop :=
  (vp_in ((b1 * ((168 : Int32))) + b2) 672 ∧ (vp_in ((b1 * ((168 : Int32))) + b2) 672 ∧ (∀ z1 : St, z1 = wR z 10 (upd (gF z 10) ((b1 * ((168 : Int32))) + b2).toNatClampNeg ((gF z 10 ((b1 * ((168 : Int32))) + b2).toNatClampNeg) + b3)) → (vp_in b2 168 ∧ (vp_in b2 168 ∧ (∀ z2 : St, z2 = wR z1 12 (upd (gF z1 12) b2.toNatClampNeg ((gF z1 12 b2.toNatClampNeg) + b3)) → P z2))))))
set_option maxHeartbeats 4000000 in
set_option maxRecDepth 100000 in
theorem m_X0_draw (l : Launch) (D : va_G) (t : Ty3) (a : Nat → Nat) (b1 : Int32) (b2 : Int32) (b3 : Int32) (z : St) (P : St → Prop) (hw : wp_X0_draw b1 b2 b3 z P) : CtV l D t yX0_draw cX0_draw 4 none 0 (wX t a) (wX t a z) [.ref (a 7), .int b1, .int b2, .int b3] P := by
  refine ctV_of (by decide) (Nat.le_of_ble_eq_true rfl) ?_
  intro p e s m args below meth c A ls C hr hlk h hl
  have hl : lv_has ls 4 [(0, .ref (a 7)), (1, .int b1), (2, .int b2), (3, .int b3)] := hl
  unfold wp_X0_draw at hw
  refine lv_aload_n (pc := 0) C.1 C.2.1 dX0_draw_0 rfl (lv_at hl 0 rfl) ?_
  refine GX_X0_18_7 (pc := 1) C h dX0_draw_1 ?_
  refine lv_iload_n (pc := 4) C.1 C.2.1 dX0_draw_4 rfl (lv_at hl 1 rfl) ?_
  refine lv_sipush (v := 168) (pc := 5) C.1 C.2.1 dX0_draw_5 (by decide) ?_
  refine lv_imul (pc := 8) C.1 C.2.1 dX0_draw_8 ?_
  refine lv_iload_n (pc := 9) C.1 C.2.1 dX0_draw_9 rfl (lv_at hl 2 rfl) ?_
  refine lv_iadd (pc := 10) C.1 C.2.1 dX0_draw_10 ?_
  refine lv_dup2_11 (pc := 11) C.1 C.2.1 dX0_draw_11 rfl rfl ?_
  refine ldX_10 (pc := 12) C h hw.1 dX0_draw_12 ?_
  have hw := hw.2
  refine lv_iload_n (pc := 13) C.1 C.2.1 dX0_draw_13 rfl (lv_at hl 3 rfl) ?_
  refine lv_iadd (pc := 14) C.1 C.2.1 dX0_draw_14 ?_
  refine stX_10 (pc := 15) C h hw.1 dX0_draw_15 (fun z1 ez1 H locs h => ?_)
  have hw := hw.2 z1 ez1
  refine lv_aload_n (pc := 16) C.1 C.2.1 dX0_draw_16 rfl (lv_at hl 0 rfl) ?_
  refine GX_X0_24_7 (pc := 17) C h dX0_draw_17 ?_
  refine lv_iload_n (pc := 20) C.1 C.2.1 dX0_draw_20 rfl (lv_at hl 2 rfl) ?_
  refine lv_dup2_11 (pc := 21) C.1 C.2.1 dX0_draw_21 rfl rfl ?_
  refine ldX_12 (pc := 22) C h hw.1 dX0_draw_22 ?_
  have hw := hw.2
  refine lv_iload_n (pc := 23) C.1 C.2.1 dX0_draw_23 rfl (lv_at hl 3 rfl) ?_
  refine lv_iadd (pc := 24) C.1 C.2.1 dX0_draw_24 ?_
  refine stX_12 (pc := 25) C h hw.1 dX0_draw_25 (fun z2 ez2 H locs h => ?_)
  have hw := hw.2 z2 ez2
  exact rt_v (pc := 26) C hr hlk h hw dX0_draw_26

def wp_X1_draw (b1 : Int32) (b2 : Int32) (b3 : Int32) (z : St) (P : St → Prop) : Prop :=
  (∀ K2 : Int32 → St → Prop, (∀ (v1 : Int32) (z3 : St), (vp_in b1 16 ∧ ((((gF z3 17 b1.toNatClampNeg) ≤ v1) → P z3) ∧ (¬ ((gF z3 17 b1.toNatClampNeg) ≤ v1) → (vp_in b1 16 ∧ (vp_in ((b1 * ((4 : Int32))) + v1) 64 ∧ (wp_X0_draw (gF z3 14 b1.toNatClampNeg) (b2 + v1) (b3 * (gF z3 18 ((b1 * ((4 : Int32))) + v1).toNatClampNeg)) z3 (fun z5 => (∀ x7 : Int32, x7 = v1 + (1) → K2 x7 z5)))))))) → K2 v1 z3) → K2 ((0 : Int32)) z)
set_option maxHeartbeats 4000000 in
set_option maxRecDepth 100000 in
theorem m_X1_draw (l : Launch) (D : va_G) (t : Ty3) (a : Nat → Nat) (b1 : Int32) (b2 : Int32) (b3 : Int32) (z : St) (P : St → Prop) (hw : wp_X1_draw b1 b2 b3 z P) : CtV l D t yX1_draw cX1_draw 5 none 1 (wX t a) (wX t a z) [.ref (a 13), .int b1, .int b2, .int b3] P := by
  refine ctV_of (by decide) (Nat.le_of_ble_eq_true rfl) ?_
  intro p e s m args below meth c A ls C hr hlk h hl
  have hl : lv_has ls 5 [(0, .ref (a 13)), (1, .int b1), (2, .int b2), (3, .int b3)] := hl
  unfold wp_X1_draw at hw
  refine lv_iconst (v := 0) (pc := 0) C.1 C.2.1 dX1_draw_0 (by decide) ?_
  have hw := hw (fun (v1 : Int32) (z3 : St) => ∀ (H : Heap) (locs : List Loc) (ls : Array Slot), wd D t A s (wX t a z3) H locs → lv_has ls 5 [(0, .ref (a 13)), (1, .int b1), (2, .int b2), (3, .int b3), (4, .int v1)] → W p l e (rmd 1) s m args below meth c H locs 0 0 (QV D t A (wX t a) P below args s) (F0 m 3 ls [])) (by
      intro v1 z3 hw H locs ls h hl
      refine lv_iload (pc := 3) C.1 C.2.1 dX1_draw_3 (lv_at hl 4 rfl) ?_
      refine lv_aload_n (pc := 5) C.1 C.2.1 dX1_draw_5 rfl (lv_at hl 0 rfl) ?_
      refine GX_X1_21_13 (pc := 6) C h dX1_draw_6 ?_
      refine lv_iload_n (pc := 9) C.1 C.2.1 dX1_draw_9 rfl (lv_at hl 1 rfl) ?_
      refine ldX_17 (pc := 10) C h hw.1 dX1_draw_10 ?_
      have hw := hw.2
      refine lv_icmp_ge (tgt := 50) (pc := 11) C.1 C.2.1 dX1_draw_11 (by decide) (fun c4 => ?_) (fun c4 => ?_)
      · have hw := hw.1 c4
        exact rt_v (pc := 50) C hr hlk h hw dX1_draw_50
      · have hw := hw.2 c4
        refine lv_aload_n (pc := 14) C.1 C.2.1 dX1_draw_14 rfl (lv_at hl 0 rfl) ?_
        refine GX_X1_33_13 (pc := 15) C h dX1_draw_15 ?_
        refine lv_aload_n (pc := 18) C.1 C.2.1 dX1_draw_18 rfl (lv_at hl 0 rfl) ?_
        refine GX_X1_9_13 (pc := 19) C h dX1_draw_19 ?_
        refine lv_iload_n (pc := 22) C.1 C.2.1 dX1_draw_22 rfl (lv_at hl 1 rfl) ?_
        refine ldX_14 (pc := 23) C h hw.1 dX1_draw_23 ?_
        have hw := hw.2
        refine lv_iload_n (pc := 24) C.1 C.2.1 dX1_draw_24 rfl (lv_at hl 2 rfl) ?_
        refine lv_iload (pc := 25) C.1 C.2.1 dX1_draw_25 (lv_at hl 4 rfl) ?_
        refine lv_iadd (pc := 27) C.1 C.2.1 dX1_draw_27 ?_
        refine lv_iload_n (pc := 28) C.1 C.2.1 dX1_draw_28 rfl (lv_at hl 3 rfl) ?_
        refine lv_aload_n (pc := 29) C.1 C.2.1 dX1_draw_29 rfl (lv_at hl 0 rfl) ?_
        refine GX_X1_24_13 (pc := 30) C h dX1_draw_30 ?_
        refine lv_iload_n (pc := 33) C.1 C.2.1 dX1_draw_33 rfl (lv_at hl 1 rfl) ?_
        refine lv_iconst (v := 4) (pc := 34) C.1 C.2.1 dX1_draw_34 (by decide) ?_
        refine lv_imul (pc := 35) C.1 C.2.1 dX1_draw_35 ?_
        refine lv_iload (pc := 36) C.1 C.2.1 dX1_draw_36 (lv_at hl 4 rfl) ?_
        refine lv_iadd (pc := 38) C.1 C.2.1 dX1_draw_38 ?_
        refine ldX_18 (pc := 39) C h hw.1 dX1_draw_39 ?_
        have hw := hw.2
        refine lv_imul (pc := 40) C.1 C.2.1 dX1_draw_40 ?_
        refine cl_vv (pc := 41) (As := [.int (gF z3 14 b1.toNatClampNeg), .int (b2 + v1), .int (b3 * (gF z3 18 ((b1 * ((4 : Int32))) + v1).toNatClampNeg))]) (rest := []) C h (m_X0_draw l D t a (gF z3 14 b1.toNatClampNeg) (b2 + v1) (b3 * (gF z3 18 ((b1 * ((4 : Int32))) + v1).toNatClampNeg)) z3 _ hw) mw_X0_draw lm_X1_45 md_X0_draw rcX_7 ⟨by decide, by decide⟩ ⟨Nat.zero_le _, Nat.zero_le _⟩ hl.1 rfl (Nat.le_of_ble_eq_true rfl) dX1_draw_41 (fun z5 H locs hw h => ?_)
        obtain ⟨x7, ex7⟩ : ∃ y : Int32, y = v1 + (1) := ⟨_, rfl⟩
        have hw := hw x7 ex7
        refine lv_iinc (v := x7) (lv' := [(4, .int x7), (0, .ref (a 13)), (1, .int b1), (2, .int b2), (3, .int b3)]) (pc := 44) C.1 C.2.1 dX1_draw_44 hl (k := 4) rfl (by rw [ex7]; rfl) (by decide) rfl (fun ls hl => ?_)
        refine lv_goto (tgt := 3) (pc := 47) C.1 C.2.1 dX1_draw_47 (by decide) ?_
        exact hw _ _ _ h (lv_sub hl [1, 2, 3, 4, 0] rfl))
  refine lv_istore (lv' := [(4, .int ((0 : Int32))), (0, .ref (a 13)), (1, .int b1), (2, .int b2), (3, .int b3)]) (pc := 1) C.1 C.2.1 dX1_draw_1 hl (by decide) rfl (fun ls hl => ?_)
  exact hw _ _ _ h (lv_sub hl [1, 2, 3, 4, 0] rfl)

def wp_X1_reopen (b1 : Int32) (z : St) (P : St → Prop) : Prop :=
  (vp_in b1 16 ∧ (((¬ (gF z 19 b1.toNatClampNeg) = ((1 : Int32))) → P z) ∧ ((gF z 19 b1.toNatClampNeg) = ((1 : Int32)) → (vp_in b1 16 ∧ (wp_X1_draw b1 (gF z 20 b1.toNatClampNeg) ((-1 : Int32)) z (fun z2 => (vp_in b1 16 ∧ (∀ z4 : St, z4 = wR z2 19 (upd (gF z2 19) b1.toNatClampNeg ((0 : Int32))) → (vp_in b1 16 ∧ (∀ z5 : St, z5 = wR z4 20 (upd (gF z4 20) b1.toNatClampNeg ((-1 : Int32))) → P z5))))))))))
set_option maxHeartbeats 4000000 in
set_option maxRecDepth 100000 in
theorem m_X1_reopen (l : Launch) (D : va_G) (t : Ty3) (a : Nat → Nat) (b1 : Int32) (z : St) (P : St → Prop) (hw : wp_X1_reopen b1 z P) : CtV l D t yX1_reopen cX1_reopen 2 none 2 (wX t a) (wX t a z) [.ref (a 13), .int b1] P := by
  refine ctV_of (by decide) (Nat.le_of_ble_eq_true rfl) ?_
  intro p e s m args below meth c A ls C hr hlk h hl
  have hl : lv_has ls 2 [(0, .ref (a 13)), (1, .int b1)] := hl
  unfold wp_X1_reopen at hw
  refine lv_aload_n (pc := 0) C.1 C.2.1 dX1_reopen_0 rfl (lv_at hl 0 rfl) ?_
  refine GX_X1_27_13 (pc := 1) C h dX1_reopen_1 ?_
  refine lv_iload_n (pc := 4) C.1 C.2.1 dX1_reopen_4 rfl (lv_at hl 1 rfl) ?_
  refine ldX_19 (pc := 5) C h hw.1 dX1_reopen_5 ?_
  have hw := hw.2
  refine lv_iconst (v := 1) (pc := 6) C.1 C.2.1 dX1_reopen_6 (by decide) ?_
  refine lv_icmp_ne (tgt := 36) (pc := 7) C.1 C.2.1 dX1_reopen_7 (by decide) (fun c1 => ?_) (fun c1 => ?_)
  · have hw := hw.1 c1
    exact rt_v (pc := 36) C hr hlk h hw dX1_reopen_36
  · have hw := hw.2 c1
    refine lv_aload_n (pc := 10) C.1 C.2.1 dX1_reopen_10 rfl (lv_at hl 0 rfl) ?_
    refine lv_iload_n (pc := 11) C.1 C.2.1 dX1_reopen_11 rfl (lv_at hl 1 rfl) ?_
    refine lv_aload_n (pc := 12) C.1 C.2.1 dX1_reopen_12 rfl (lv_at hl 0 rfl) ?_
    refine GX_X1_30_13 (pc := 13) C h dX1_reopen_13 ?_
    refine lv_iload_n (pc := 16) C.1 C.2.1 dX1_reopen_16 rfl (lv_at hl 1 rfl) ?_
    refine ldX_20 (pc := 17) C h hw.1 dX1_reopen_17 ?_
    have hw := hw.2
    refine lv_iconst (v := -1) (pc := 18) C.1 C.2.1 dX1_reopen_18 (by decide) ?_
    refine cl_vv (pc := 19) (As := [.int b1, .int (gF z 20 b1.toNatClampNeg), .int ((-1 : Int32))]) (rest := []) C h (m_X1_draw l D t a b1 (gF z 20 b1.toNatClampNeg) ((-1 : Int32)) z _ hw) mw_X1_draw lm_X1_41 md_X1_draw rcX_13 ⟨by decide, by decide⟩ ⟨Nat.zero_le _, Nat.zero_le _⟩ hl.1 rfl (Nat.le_of_ble_eq_true rfl) dX1_reopen_19 (fun z2 H locs hw h => ?_)
    refine lv_aload_n (pc := 22) C.1 C.2.1 dX1_reopen_22 rfl (lv_at hl 0 rfl) ?_
    refine GX_X1_27_13 (pc := 23) C h dX1_reopen_23 ?_
    refine lv_iload_n (pc := 26) C.1 C.2.1 dX1_reopen_26 rfl (lv_at hl 1 rfl) ?_
    refine lv_iconst (v := 0) (pc := 27) C.1 C.2.1 dX1_reopen_27 (by decide) ?_
    refine stX_19 (pc := 28) C h hw.1 dX1_reopen_28 (fun z4 ez4 H locs h => ?_)
    have hw := hw.2 z4 ez4
    refine lv_aload_n (pc := 29) C.1 C.2.1 dX1_reopen_29 rfl (lv_at hl 0 rfl) ?_
    refine GX_X1_30_13 (pc := 30) C h dX1_reopen_30 ?_
    refine lv_iload_n (pc := 33) C.1 C.2.1 dX1_reopen_33 rfl (lv_at hl 1 rfl) ?_
    refine lv_iconst (v := -1) (pc := 34) C.1 C.2.1 dX1_reopen_34 (by decide) ?_
    refine stX_20 (pc := 35) C h hw.1 dX1_reopen_35 (fun z5 ez5 H locs h => ?_)
    have hw := hw.2 z5 ez5
    exact rt_v (pc := 36) C hr hlk h hw dX1_reopen_36

def wp_X5_isBefore_c34 (b1 : Int32) (b2 : Int32) (z : St) (P : Int32 → Prop) : Prop :=
  (vp_in b1 16 ∧ ((((((gF z 36 b1.toNatClampNeg) >>> (b2 &&& 31)) &&& ((1 : Int32))) = 0) → P ((0 : Int32))) ∧ (¬ ((((gF z 36 b1.toNatClampNeg) >>> (b2 &&& 31)) &&& ((1 : Int32))) = 0) → P ((1 : Int32)))))
set_option maxHeartbeats 4000000 in
set_option maxRecDepth 100000 in
theorem m_X5_isBefore_c34 (l : Launch) (D : va_G) (t : Ty3) (a : Nat → Nat) (b1 : Int32) (b2 : Int32) (z : St) (P : Int32 → Prop) (hw : wp_X5_isBefore_c34 b1 b2 z P) : CtI l D t yX5_isBefore cX5_isBefore 3 (some .boolean) 0 (wX t a) (wX t a z) [.ref (a 34), .int b1, .int b2] (fun rr zz => zz = z ∧ P rr) := by
  refine ctI_of (by decide) (Nat.le_of_ble_eq_true rfl) ?_
  intro p e s m args below meth c A ls C hr hlk h hl
  have hl : lv_has ls 3 [(0, .ref (a 34)), (1, .int b1), (2, .int b2)] := hl
  unfold wp_X5_isBefore_c34 at hw
  refine lv_aload_n (pc := 0) C.1 C.2.1 dX5_isBefore_0 rfl (lv_at hl 0 rfl) ?_
  refine GX_X5_15_34 (pc := 1) C h dX5_isBefore_1 ?_
  refine lv_iload_n (pc := 4) C.1 C.2.1 dX5_isBefore_4 rfl (lv_at hl 1 rfl) ?_
  refine ldX_36 (pc := 5) C h hw.1 dX5_isBefore_5 ?_
  have hw := hw.2
  refine lv_iload_n (pc := 6) C.1 C.2.1 dX5_isBefore_6 rfl (lv_at hl 2 rfl) ?_
  refine lv_ishr (pc := 7) C.1 C.2.1 dX5_isBefore_7 ?_
  refine lv_iconst (v := 1) (pc := 8) C.1 C.2.1 dX5_isBefore_8 (by decide) ?_
  refine lv_iand (pc := 9) C.1 C.2.1 dX5_isBefore_9 ?_
  refine lv_if_eq (tgt := 17) (pc := 10) C.1 C.2.1 dX5_isBefore_10 (by decide) (fun c1 => ?_) (fun c1 => ?_)
  · have hw := hw.1 c1
    refine lv_iconst (v := 0) (pc := 17) C.1 C.2.1 dX5_isBefore_17 (by decide) ?_
    exact rt_z (pc := 18) C hr hlk h (Or.inl rfl) ⟨rfl, hw⟩ dX5_isBefore_18
  · have hw := hw.2 c1
    refine lv_iconst (v := 1) (pc := 13) C.1 C.2.1 dX5_isBefore_13 (by decide) ?_
    refine lv_goto (tgt := 18) (pc := 14) C.1 C.2.1 dX5_isBefore_14 (by decide) ?_
    exact rt_z (pc := 18) C hr hlk h (Or.inr rfl) ⟨rfl, hw⟩ dX5_isBefore_18

def wp_X2_isInTurn (b1 : Int32) (b2 : Int32) (z : St) (P : Int32 → Prop) : Prop :=
  (∀ K2 : Int32 → Prop, (∀ (v1 : Int32), ((((gI z 1308) ≤ v1) → P ((1 : Int32))) ∧ (¬ ((gI z 1308) ≤ v1) → (vp_in v1 16 ∧ (∀ K4 : Prop, ((∀ x5 : Int32, x5 = v1 + (1) → K2 x5) → K4) → (((¬ (gF z 19 v1.toNatClampNeg) = 0) → (vp_in v1 16 ∧ (∀ x7 : Int32, x7 = gF z 20 v1.toNatClampNeg → (wp_X5_isBefore_c34 b1 v1 z (fun r9 => (∀ K10 : Prop, ((wp_X5_isBefore_c34 v1 b1 z (fun r12 => (((r12 = 0) → K4) ∧ (¬ (r12 = 0) → (vp_in v1 16 ∧ ((((x7 + (gF z 17 v1.toNatClampNeg)) ≤ b2) → K4) ∧ (¬ ((x7 + (gF z 17 v1.toNatClampNeg)) ≤ b2) → P ((0 : Int32))))))))) → K10) → (((r9 = 0) → K10) ∧ (¬ (r9 = 0) → (vp_in b1 16 ∧ ((((b2 + (gF z 17 b1.toNatClampNeg)) ≤ x7) → K10) ∧ (¬ ((b2 + (gF z 17 b1.toNatClampNeg)) ≤ x7) → P ((0 : Int32))))))))))))) ∧ ((gF z 19 v1.toNatClampNeg) = 0 → K4)))))) → K2 v1) → K2 ((0 : Int32)))
set_option maxHeartbeats 4000000 in
set_option maxRecDepth 100000 in
theorem m_X2_isInTurn (l : Launch) (D : va_G) (t : Ty3) (a : Nat → Nat) (b1 : Int32) (b2 : Int32) (z : St) (P : Int32 → Prop) (hw : wp_X2_isInTurn b1 b2 z P) : CtI l D t yX2_isInTurn cX2_isInTurn 5 (some .boolean) 1 (wX t a) (wX t a z) [.ref (a 21), .int b1, .int b2] (fun rr zz => zz = z ∧ P rr) := by
  refine ctI_of (by decide) (Nat.le_of_ble_eq_true rfl) ?_
  intro p e s m args below meth c A ls C hr hlk h hl
  have hl : lv_has ls 5 [(0, .ref (a 21)), (1, .int b1), (2, .int b2)] := hl
  unfold wp_X2_isInTurn at hw
  refine lv_iconst (v := 0) (pc := 0) C.1 C.2.1 dX2_isInTurn_0 (by decide) ?_
  have hw := hw (fun (v1 : Int32) => ∀ (H : Heap) (locs : List Loc) (ls : Array Slot), wd D t A s (wX t a z) H locs → lv_has ls 5 [(0, .ref (a 21)), (1, .int b1), (2, .int b2), (3, .int v1)] → W p l e (rmd 1) s m args below meth c H locs 0 0 (QI D t A (wX t a) (fun rr zz => zz = z ∧ P rr) below args s) (F0 m 2 ls [])) (by
      intro v1 hw H locs ls h hl
      refine lv_iload_n (pc := 2) C.1 C.2.1 dX2_isInTurn_2 rfl (lv_at hl 3 rfl) ?_
      refine lv_aload_n (pc := 3) C.1 C.2.1 dX2_isInTurn_3 rfl (lv_at hl 0 rfl) ?_
      refine GX_X2_15_21 (pc := 4) C h dX2_isInTurn_4 ?_
      refine GX_X2_86_13 (pc := 7) C h dX2_isInTurn_7 ?_
      refine lv_icmp_ge (tgt := 105) (pc := 10) C.1 C.2.1 dX2_isInTurn_10 (by decide) (fun c3 => ?_) (fun c3 => ?_)
      · have hw := hw.1 c3
        refine lv_iconst (v := 1) (pc := 105) C.1 C.2.1 dX2_isInTurn_105 (by decide) ?_
        exact rt_z (pc := 106) C hr hlk h (Or.inr rfl) ⟨rfl, hw⟩ dX2_isInTurn_106
      · have hw := hw.2 c3
        refine lv_aload_n (pc := 13) C.1 C.2.1 dX2_isInTurn_13 rfl (lv_at hl 0 rfl) ?_
        refine GX_X2_15_21 (pc := 14) C h dX2_isInTurn_14 ?_
        refine GX_X2_89_13 (pc := 17) C h dX2_isInTurn_17 ?_
        refine lv_iload_n (pc := 20) C.1 C.2.1 dX2_isInTurn_20 rfl (lv_at hl 3 rfl) ?_
        refine ldX_19 (pc := 21) C h hw.1 dX2_isInTurn_21 ?_
        have hw := hw.2
        have hw := hw (∀ (H : Heap) (locs : List Loc) (ls : Array Slot), wd D t A s (wX t a z) H locs → lv_has ls 5 [(0, .ref (a 21)), (1, .int b1), (2, .int b2), (3, .int v1)] → W p l e (rmd 1) s m args below meth c H locs 0 0 (QI D t A (wX t a) (fun rr zz => zz = z ∧ P rr) below args s) (F0 m 99 ls [])) (by
            intro hw H locs ls h hl
            obtain ⟨x5, ex5⟩ : ∃ y : Int32, y = v1 + (1) := ⟨_, rfl⟩
            have hw := hw x5 ex5
            refine lv_iinc (v := x5) (lv' := [(3, .int x5), (0, .ref (a 21)), (1, .int b1), (2, .int b2)]) (pc := 99) C.1 C.2.1 dX2_isInTurn_99 hl (k := 3) rfl (by rw [ex5]; rfl) (by decide) rfl (fun ls hl => ?_)
            refine lv_goto (tgt := 2) (pc := 102) C.1 C.2.1 dX2_isInTurn_102 (by decide) ?_
            exact hw _ _ _ h (lv_sub hl [1, 2, 3, 0] rfl))
        refine lv_if_ne (tgt := 28) (pc := 22) C.1 C.2.1 dX2_isInTurn_22 (by decide) (fun c6 => ?_) (fun c6 => ?_)
        · have hw := hw.1 c6
          refine lv_aload_n (pc := 28) C.1 C.2.1 dX2_isInTurn_28 rfl (lv_at hl 0 rfl) ?_
          refine GX_X2_15_21 (pc := 29) C h dX2_isInTurn_29 ?_
          refine GX_X2_39_13 (pc := 32) C h dX2_isInTurn_32 ?_
          refine lv_iload_n (pc := 35) C.1 C.2.1 dX2_isInTurn_35 rfl (lv_at hl 3 rfl) ?_
          refine ldX_20 (pc := 36) C h hw.1 dX2_isInTurn_36 ?_
          have hw := hw.2
          refine lv_topi (fun x7 ex7 => ?_)
          have hw := hw x7 ex7
          refine lv_istore (lv' := [(4, .int x7), (0, .ref (a 21)), (1, .int b1), (2, .int b2), (3, .int v1)]) (pc := 37) C.1 C.2.1 dX2_isInTurn_37 hl (by decide) rfl (fun ls hl => ?_)
          refine lv_aload_n (pc := 39) C.1 C.2.1 dX2_isInTurn_39 rfl (lv_at hl 1 rfl) ?_
          refine GX_X2_31_21 (pc := 40) C h dX2_isInTurn_40 ?_
          refine lv_iload_n (pc := 43) C.1 C.2.1 dX2_isInTurn_43 rfl (lv_at hl 2 rfl) ?_
          refine lv_iload_n (pc := 44) C.1 C.2.1 dX2_isInTurn_44 rfl (lv_at hl 4 rfl) ?_
          refine cl_vi (pc := 45) (As := [.int b1, .int v1]) (rest := []) C h (m_X5_isBefore_c34 l D t a b1 v1 z _ hw) mw_X5_isBefore lm_X2_92 md_X5_isBefore rcX_34 ⟨by decide, by decide⟩ ⟨Nat.zero_le _, Nat.zero_le _⟩ hl.1 rfl (Nat.le_of_ble_eq_true rfl) dX2_isInTurn_45 (fun r9 z8 H locs hw h => ?_)
          rw [hw.1] at h
          have hw := hw.2
          have hw := hw (∀ (H : Heap) (locs : List Loc) (ls : Array Slot), wd D t A s (wX t a z) H locs → lv_has ls 5 [(0, .ref (a 21)), (1, .int b1), (2, .int b2), (3, .int v1), (4, .int x7)] → W p l e (rmd 1) s m args below meth c H locs 0 0 (QI D t A (wX t a) (fun rr zz => zz = z ∧ P rr) below args s) (F0 m 69 ls [])) (by
              intro hw H locs ls h hl
              refine lv_aload_n (pc := 69) C.1 C.2.1 dX2_isInTurn_69 rfl (lv_at hl 0 rfl) ?_
              refine GX_X2_31_21 (pc := 70) C h dX2_isInTurn_70 ?_
              refine lv_iload_n (pc := 73) C.1 C.2.1 dX2_isInTurn_73 rfl (lv_at hl 3 rfl) ?_
              refine lv_iload_n (pc := 74) C.1 C.2.1 dX2_isInTurn_74 rfl (lv_at hl 1 rfl) ?_
              refine cl_vi (pc := 75) (As := [.int v1, .int b1]) (rest := []) C h (m_X5_isBefore_c34 l D t a v1 b1 z _ hw) mw_X5_isBefore lm_X2_92 md_X5_isBefore rcX_34 ⟨by decide, by decide⟩ ⟨Nat.zero_le _, Nat.zero_le _⟩ hl.1 rfl (Nat.le_of_ble_eq_true rfl) dX2_isInTurn_75 (fun r12 z11 H locs hw h => ?_)
              rw [hw.1] at h
              have hw := hw.2
              refine lv_if_eq (tgt := 99) (pc := 78) C.1 C.2.1 dX2_isInTurn_78 (by decide) (fun c13 => ?_) (fun c13 => ?_)
              · have hw := hw.1 c13
                exact hw _ _ _ h (lv_sub hl [0, 1, 2, 3] rfl)
              · have hw := hw.2 c13
                refine lv_iload_n (pc := 81) C.1 C.2.1 dX2_isInTurn_81 rfl (lv_at hl 2 rfl) ?_
                refine lv_iload (pc := 82) C.1 C.2.1 dX2_isInTurn_82 (lv_at hl 4 rfl) ?_
                refine lv_aload_n (pc := 84) C.1 C.2.1 dX2_isInTurn_84 rfl (lv_at hl 0 rfl) ?_
                refine GX_X2_15_21 (pc := 85) C h dX2_isInTurn_85 ?_
                refine GX_X2_57_13 (pc := 88) C h dX2_isInTurn_88 ?_
                refine lv_iload_n (pc := 91) C.1 C.2.1 dX2_isInTurn_91 rfl (lv_at hl 3 rfl) ?_
                refine ldX_17 (pc := 92) C h hw.1 dX2_isInTurn_92 ?_
                have hw := hw.2
                refine lv_iadd (pc := 93) C.1 C.2.1 dX2_isInTurn_93 ?_
                refine lv_icmp_ge (tgt := 99) (pc := 94) C.1 C.2.1 dX2_isInTurn_94 (by decide) (fun c14 => ?_) (fun c14 => ?_)
                · have hw := hw.1 c14
                  exact hw _ _ _ h (lv_sub hl [0, 1, 2, 3] rfl)
                · have hw := hw.2 c14
                  refine lv_iconst (v := 0) (pc := 97) C.1 C.2.1 dX2_isInTurn_97 (by decide) ?_
                  exact rt_z (pc := 98) C hr hlk h (Or.inl rfl) ⟨rfl, hw⟩ dX2_isInTurn_98)
          refine lv_if_eq (tgt := 69) (pc := 48) C.1 C.2.1 dX2_isInTurn_48 (by decide) (fun c15 => ?_) (fun c15 => ?_)
          · have hw := hw.1 c15
            exact hw _ _ _ h (lv_sub hl [1, 2, 3, 4, 0] rfl)
          · have hw := hw.2 c15
            refine lv_iload (pc := 51) C.1 C.2.1 dX2_isInTurn_51 (lv_at hl 0 rfl) ?_
            refine lv_iload_n (pc := 53) C.1 C.2.1 dX2_isInTurn_53 rfl (lv_at hl 3 rfl) ?_
            refine lv_aload_n (pc := 54) C.1 C.2.1 dX2_isInTurn_54 rfl (lv_at hl 1 rfl) ?_
            refine GX_X2_15_21 (pc := 55) C h dX2_isInTurn_55 ?_
            refine GX_X2_57_13 (pc := 58) C h dX2_isInTurn_58 ?_
            refine lv_iload_n (pc := 61) C.1 C.2.1 dX2_isInTurn_61 rfl (lv_at hl 2 rfl) ?_
            refine ldX_17 (pc := 62) C h hw.1 dX2_isInTurn_62 ?_
            have hw := hw.2
            refine lv_iadd (pc := 63) C.1 C.2.1 dX2_isInTurn_63 ?_
            refine lv_icmp_ge (tgt := 69) (pc := 64) C.1 C.2.1 dX2_isInTurn_64 (by decide) (fun c16 => ?_) (fun c16 => ?_)
            · have hw := hw.1 c16
              exact hw _ _ _ h (lv_sub hl [1, 2, 3, 4, 0] rfl)
            · have hw := hw.2 c16
              refine lv_iconst (v := 0) (pc := 67) C.1 C.2.1 dX2_isInTurn_67 (by decide) ?_
              exact rt_z (pc := 68) C hr hlk h (Or.inl rfl) ⟨rfl, hw⟩ dX2_isInTurn_68
        · have hw := hw.2 c6
          refine lv_goto (tgt := 99) (pc := 25) C.1 C.2.1 dX2_isInTurn_25 (by decide) ?_
          exact hw _ _ _ h (lv_sub hl [0, 1, 2, 3] rfl))
  refine lv_istore_n (lv' := [(3, .int ((0 : Int32))), (0, .ref (a 21)), (1, .int b1), (2, .int b2)]) (pc := 1) C.1 C.2.1 dX2_isInTurn_1 rfl hl (by decide) rfl (fun ls hl => ?_)
  exact hw _ _ _ h (lv_sub hl [1, 2, 3, 0] rfl)

def wp_X0_draws (b1 : Int32) (b2 : Int32) (z : St) (P : Int32 → Prop) : Prop :=
  (vp_in ((b1 * ((24 : Int32))) + (b2 - b2 / ((24 : Int32)) * ((24 : Int32)))) 96 ∧ (vp_in ((b1 * ((168 : Int32))) + b2) 672 ∧ P ((gF z 9 ((b1 * ((24 : Int32))) + (b2 - b2 / ((24 : Int32)) * ((24 : Int32)))).toNatClampNeg) + (gF z 10 ((b1 * ((168 : Int32))) + b2).toNatClampNeg))))
set_option maxHeartbeats 4000000 in
set_option maxRecDepth 100000 in
theorem m_X0_draws (l : Launch) (D : va_G) (t : Ty3) (a : Nat → Nat) (b1 : Int32) (b2 : Int32) (z : St) (P : Int32 → Prop) (hw : wp_X0_draws b1 b2 z P) : CtI l D t yX0_draws cX0_draws 3 (some .int) 0 (wX t a) (wX t a z) [.ref (a 7), .int b1, .int b2] (fun rr zz => zz = z ∧ P rr) := by
  refine ctI_of (by decide) (Nat.le_of_ble_eq_true rfl) ?_
  intro p e s m args below meth c A ls C hr hlk h hl
  have hl : lv_has ls 3 [(0, .ref (a 7)), (1, .int b1), (2, .int b2)] := hl
  unfold wp_X0_draws at hw
  refine lv_aload_n (pc := 0) C.1 C.2.1 dX0_draws_0 rfl (lv_at hl 0 rfl) ?_
  refine GX_X0_15_7 (pc := 1) C h dX0_draws_1 ?_
  refine lv_iload_n (pc := 4) C.1 C.2.1 dX0_draws_4 rfl (lv_at hl 1 rfl) ?_
  refine lv_bipush (v := 24) (pc := 5) C.1 C.2.1 dX0_draws_5 (by decide) ?_
  refine lv_imul (pc := 7) C.1 C.2.1 dX0_draws_7 ?_
  refine lv_iload_n (pc := 8) C.1 C.2.1 dX0_draws_8 rfl (lv_at hl 2 rfl) ?_
  refine lv_bipush (v := 24) (pc := 9) C.1 C.2.1 dX0_draws_9 (by decide) ?_
  refine lv_irem (pc := 11) C.1 C.2.1 dX0_draws_11 (by decide) ?_
  refine lv_iadd (pc := 12) C.1 C.2.1 dX0_draws_12 ?_
  refine ldX_9 (pc := 13) C h hw.1 dX0_draws_13 ?_
  have hw := hw.2
  refine lv_aload_n (pc := 14) C.1 C.2.1 dX0_draws_14 rfl (lv_at hl 0 rfl) ?_
  refine GX_X0_18_7 (pc := 15) C h dX0_draws_15 ?_
  refine lv_iload_n (pc := 18) C.1 C.2.1 dX0_draws_18 rfl (lv_at hl 1 rfl) ?_
  refine lv_sipush (v := 168) (pc := 19) C.1 C.2.1 dX0_draws_19 (by decide) ?_
  refine lv_imul (pc := 22) C.1 C.2.1 dX0_draws_22 ?_
  refine lv_iload_n (pc := 23) C.1 C.2.1 dX0_draws_23 rfl (lv_at hl 2 rfl) ?_
  refine lv_iadd (pc := 24) C.1 C.2.1 dX0_draws_24 ?_
  refine ldX_10 (pc := 25) C h hw.1 dX0_draws_25 ?_
  have hw := hw.2
  refine lv_iadd (pc := 26) C.1 C.2.1 dX0_draws_26 ?_
  exact rt_i (pc := 27) C hr hlk h ⟨rfl, hw⟩ dX0_draws_27

def wp_X0_allDraw (b1 : Int32) (z : St) (P : Int32 → Prop) : Prop :=
  (vp_in (b1 - b1 / ((24 : Int32)) * ((24 : Int32))) 24 ∧ (vp_in b1 168 ∧ P ((gF z 11 (b1 - b1 / ((24 : Int32)) * ((24 : Int32))).toNatClampNeg) + (gF z 12 b1.toNatClampNeg))))
set_option maxHeartbeats 4000000 in
set_option maxRecDepth 100000 in
theorem m_X0_allDraw (l : Launch) (D : va_G) (t : Ty3) (a : Nat → Nat) (b1 : Int32) (z : St) (P : Int32 → Prop) (hw : wp_X0_allDraw b1 z P) : CtI l D t yX0_allDraw cX0_allDraw 2 (some .int) 0 (wX t a) (wX t a z) [.ref (a 7), .int b1] (fun rr zz => zz = z ∧ P rr) := by
  refine ctI_of (by decide) (Nat.le_of_ble_eq_true rfl) ?_
  intro p e s m args below meth c A ls C hr hlk h hl
  have hl : lv_has ls 2 [(0, .ref (a 7)), (1, .int b1)] := hl
  unfold wp_X0_allDraw at hw
  refine lv_aload_n (pc := 0) C.1 C.2.1 dX0_allDraw_0 rfl (lv_at hl 0 rfl) ?_
  refine GX_X0_21_7 (pc := 1) C h dX0_allDraw_1 ?_
  refine lv_iload_n (pc := 4) C.1 C.2.1 dX0_allDraw_4 rfl (lv_at hl 1 rfl) ?_
  refine lv_bipush (v := 24) (pc := 5) C.1 C.2.1 dX0_allDraw_5 (by decide) ?_
  refine lv_irem (pc := 7) C.1 C.2.1 dX0_allDraw_7 (by decide) ?_
  refine ldX_11 (pc := 8) C h hw.1 dX0_allDraw_8 ?_
  have hw := hw.2
  refine lv_aload_n (pc := 9) C.1 C.2.1 dX0_allDraw_9 rfl (lv_at hl 0 rfl) ?_
  refine GX_X0_24_7 (pc := 10) C h dX0_allDraw_10 ?_
  refine lv_iload_n (pc := 13) C.1 C.2.1 dX0_allDraw_13 rfl (lv_at hl 1 rfl) ?_
  refine ldX_12 (pc := 14) C h hw.1 dX0_allDraw_14 ?_
  have hw := hw.2
  refine lv_iadd (pc := 15) C.1 C.2.1 dX0_allDraw_15 ?_
  exact rt_i (pc := 16) C hr hlk h ⟨rfl, hw⟩ dX0_allDraw_16

def wp_X0_bears (b1 : Int32) (b2 : Int32) (b3 : Int32) (z : St) (P : Int32 → Prop) : Prop :=
  (wp_X0_draws b1 b2 z (fun r2 => (vp_in b1 4 ∧ ((((gF z 8 b1.toNatClampNeg) < (r2 + b3)) → P ((0 : Int32))) ∧ (¬ ((gF z 8 b1.toNatClampNeg) < (r2 + b3)) → (wp_X0_allDraw b2 z (fun r5 => ((((gI z 706) < (r5 + b3)) → P ((0 : Int32))) ∧ (¬ ((gI z 706) < (r5 + b3)) → P ((1 : Int32)))))))))))
set_option maxHeartbeats 4000000 in
set_option maxRecDepth 100000 in
theorem m_X0_bears (l : Launch) (D : va_G) (t : Ty3) (a : Nat → Nat) (b1 : Int32) (b2 : Int32) (b3 : Int32) (z : St) (P : Int32 → Prop) (hw : wp_X0_bears b1 b2 b3 z P) : CtI l D t yX0_bears cX0_bears 4 (some .boolean) 1 (wX t a) (wX t a z) [.ref (a 7), .int b1, .int b2, .int b3] (fun rr zz => zz = z ∧ P rr) := by
  refine ctI_of (by decide) (Nat.le_of_ble_eq_true rfl) ?_
  intro p e s m args below meth c A ls C hr hlk h hl
  have hl : lv_has ls 4 [(0, .ref (a 7)), (1, .int b1), (2, .int b2), (3, .int b3)] := hl
  unfold wp_X0_bears at hw
  refine lv_aload_n (pc := 0) C.1 C.2.1 dX0_bears_0 rfl (lv_at hl 0 rfl) ?_
  refine lv_iload_n (pc := 1) C.1 C.2.1 dX0_bears_1 rfl (lv_at hl 1 rfl) ?_
  refine lv_iload_n (pc := 2) C.1 C.2.1 dX0_bears_2 rfl (lv_at hl 2 rfl) ?_
  refine cl_vi (pc := 3) (As := [.int b1, .int b2]) (rest := []) C h (m_X0_draws l D t a b1 b2 z _ hw) mw_X0_draws lm_X0_35 md_X0_draws rcX_7 ⟨by decide, by decide⟩ ⟨Nat.zero_le _, Nat.zero_le _⟩ hl.1 rfl (Nat.le_of_ble_eq_true rfl) dX0_bears_3 (fun r2 z1 H locs hw h => ?_)
  rw [hw.1] at h
  have hw := hw.2
  refine lv_iload_n (pc := 6) C.1 C.2.1 dX0_bears_6 rfl (lv_at hl 3 rfl) ?_
  refine lv_iadd (pc := 7) C.1 C.2.1 dX0_bears_7 ?_
  refine lv_aload_n (pc := 8) C.1 C.2.1 dX0_bears_8 rfl (lv_at hl 0 rfl) ?_
  refine GX_X0_9_7 (pc := 9) C h dX0_bears_9 ?_
  refine lv_iload_n (pc := 12) C.1 C.2.1 dX0_bears_12 rfl (lv_at hl 1 rfl) ?_
  refine ldX_8 (pc := 13) C h hw.1 dX0_bears_13 ?_
  have hw := hw.2
  refine lv_icmp_gt (tgt := 35) (pc := 14) C.1 C.2.1 dX0_bears_14 (by decide) (fun c3 => ?_) (fun c3 => ?_)
  · have hw := hw.1 c3
    refine lv_iconst (v := 0) (pc := 35) C.1 C.2.1 dX0_bears_35 (by decide) ?_
    exact rt_z (pc := 36) C hr hlk h (Or.inl rfl) ⟨rfl, hw⟩ dX0_bears_36
  · have hw := hw.2 c3
    refine lv_aload_n (pc := 17) C.1 C.2.1 dX0_bears_17 rfl (lv_at hl 0 rfl) ?_
    refine lv_iload_n (pc := 18) C.1 C.2.1 dX0_bears_18 rfl (lv_at hl 2 rfl) ?_
    refine cl_vi (pc := 19) (As := [.int b2]) (rest := []) C h (m_X0_allDraw l D t a b2 z _ hw) mw_X0_allDraw lm_X0_39 md_X0_allDraw rcX_7 ⟨by decide, by decide⟩ ⟨Nat.zero_le _, Nat.zero_le _⟩ hl.1 rfl (Nat.le_of_ble_eq_true rfl) dX0_bears_19 (fun r5 z4 H locs hw h => ?_)
    rw [hw.1] at h
    have hw := hw.2
    refine lv_iload_n (pc := 22) C.1 C.2.1 dX0_bears_22 rfl (lv_at hl 3 rfl) ?_
    refine lv_iadd (pc := 23) C.1 C.2.1 dX0_bears_23 ?_
    refine lv_aload_n (pc := 24) C.1 C.2.1 dX0_bears_24 rfl (lv_at hl 0 rfl) ?_
    refine GX_X0_32_7 (pc := 25) C h dX0_bears_25 ?_
    refine lv_icmp_gt (tgt := 35) (pc := 28) C.1 C.2.1 dX0_bears_28 (by decide) (fun c6 => ?_) (fun c6 => ?_)
    · have hw := hw.1 c6
      refine lv_iconst (v := 0) (pc := 35) C.1 C.2.1 dX0_bears_35 (by decide) ?_
      exact rt_z (pc := 36) C hr hlk h (Or.inl rfl) ⟨rfl, hw⟩ dX0_bears_36
    · have hw := hw.2 c6
      refine lv_iconst (v := 1) (pc := 31) C.1 C.2.1 dX0_bears_31 (by decide) ?_
      refine lv_goto (tgt := 36) (pc := 32) C.1 C.2.1 dX0_bears_32 (by decide) ?_
      exact rt_z (pc := 36) C hr hlk h (Or.inr rfl) ⟨rfl, hw⟩ dX0_bears_36

def wp_X1_isBorne (b1 : Int32) (b2 : Int32) (z : St) (P : Int32 → Prop) : Prop :=
  (∀ K2 : Int32 → Prop, (∀ (v1 : Int32), (vp_in b1 16 ∧ ((((gF z 17 b1.toNatClampNeg) ≤ v1) → P ((1 : Int32))) ∧ (¬ ((gF z 17 b1.toNatClampNeg) ≤ v1) → (vp_in b1 16 ∧ (vp_in ((b1 * ((4 : Int32))) + v1) 64 ∧ (wp_X0_bears (gF z 14 b1.toNatClampNeg) (b2 + v1) (gF z 18 ((b1 * ((4 : Int32))) + v1).toNatClampNeg) z (fun r5 => (((¬ r5 = 0) → (∀ x7 : Int32, x7 = v1 + (1) → K2 x7)) ∧ (r5 = 0 → P ((0 : Int32))))))))))) → K2 v1) → K2 ((0 : Int32)))
set_option maxHeartbeats 4000000 in
set_option maxRecDepth 100000 in
theorem m_X1_isBorne (l : Launch) (D : va_G) (t : Ty3) (a : Nat → Nat) (b1 : Int32) (b2 : Int32) (z : St) (P : Int32 → Prop) (hw : wp_X1_isBorne b1 b2 z P) : CtI l D t yX1_isBorne cX1_isBorne 4 (some .boolean) 2 (wX t a) (wX t a z) [.ref (a 13), .int b1, .int b2] (fun rr zz => zz = z ∧ P rr) := by
  refine ctI_of (by decide) (Nat.le_of_ble_eq_true rfl) ?_
  intro p e s m args below meth c A ls C hr hlk h hl
  have hl : lv_has ls 4 [(0, .ref (a 13)), (1, .int b1), (2, .int b2)] := hl
  unfold wp_X1_isBorne at hw
  refine lv_iconst (v := 0) (pc := 0) C.1 C.2.1 dX1_isBorne_0 (by decide) ?_
  have hw := hw (fun (v1 : Int32) => ∀ (H : Heap) (locs : List Loc) (ls : Array Slot), wd D t A s (wX t a z) H locs → lv_has ls 4 [(0, .ref (a 13)), (1, .int b1), (2, .int b2), (3, .int v1)] → W p l e (rmd 2) s m args below meth c H locs 0 0 (QI D t A (wX t a) (fun rr zz => zz = z ∧ P rr) below args s) (F0 m 2 ls [])) (by
      intro v1 hw H locs ls h hl
      refine lv_iload_n (pc := 2) C.1 C.2.1 dX1_isBorne_2 rfl (lv_at hl 3 rfl) ?_
      refine lv_aload_n (pc := 3) C.1 C.2.1 dX1_isBorne_3 rfl (lv_at hl 0 rfl) ?_
      refine GX_X1_21_13 (pc := 4) C h dX1_isBorne_4 ?_
      refine lv_iload_n (pc := 7) C.1 C.2.1 dX1_isBorne_7 rfl (lv_at hl 1 rfl) ?_
      refine ldX_17 (pc := 8) C h hw.1 dX1_isBorne_8 ?_
      have hw := hw.2
      refine lv_icmp_ge (tgt := 49) (pc := 9) C.1 C.2.1 dX1_isBorne_9 (by decide) (fun c3 => ?_) (fun c3 => ?_)
      · have hw := hw.1 c3
        refine lv_iconst (v := 1) (pc := 49) C.1 C.2.1 dX1_isBorne_49 (by decide) ?_
        exact rt_z (pc := 50) C hr hlk h (Or.inr rfl) ⟨rfl, hw⟩ dX1_isBorne_50
      · have hw := hw.2 c3
        refine lv_aload_n (pc := 12) C.1 C.2.1 dX1_isBorne_12 rfl (lv_at hl 0 rfl) ?_
        refine GX_X1_33_13 (pc := 13) C h dX1_isBorne_13 ?_
        refine lv_aload_n (pc := 16) C.1 C.2.1 dX1_isBorne_16 rfl (lv_at hl 0 rfl) ?_
        refine GX_X1_9_13 (pc := 17) C h dX1_isBorne_17 ?_
        refine lv_iload_n (pc := 20) C.1 C.2.1 dX1_isBorne_20 rfl (lv_at hl 1 rfl) ?_
        refine ldX_14 (pc := 21) C h hw.1 dX1_isBorne_21 ?_
        have hw := hw.2
        refine lv_iload_n (pc := 22) C.1 C.2.1 dX1_isBorne_22 rfl (lv_at hl 2 rfl) ?_
        refine lv_iload_n (pc := 23) C.1 C.2.1 dX1_isBorne_23 rfl (lv_at hl 3 rfl) ?_
        refine lv_iadd (pc := 24) C.1 C.2.1 dX1_isBorne_24 ?_
        refine lv_aload_n (pc := 25) C.1 C.2.1 dX1_isBorne_25 rfl (lv_at hl 0 rfl) ?_
        refine GX_X1_24_13 (pc := 26) C h dX1_isBorne_26 ?_
        refine lv_iload_n (pc := 29) C.1 C.2.1 dX1_isBorne_29 rfl (lv_at hl 1 rfl) ?_
        refine lv_iconst (v := 4) (pc := 30) C.1 C.2.1 dX1_isBorne_30 (by decide) ?_
        refine lv_imul (pc := 31) C.1 C.2.1 dX1_isBorne_31 ?_
        refine lv_iload_n (pc := 32) C.1 C.2.1 dX1_isBorne_32 rfl (lv_at hl 3 rfl) ?_
        refine lv_iadd (pc := 33) C.1 C.2.1 dX1_isBorne_33 ?_
        refine ldX_18 (pc := 34) C h hw.1 dX1_isBorne_34 ?_
        have hw := hw.2
        refine cl_vi (pc := 35) (As := [.int (gF z 14 b1.toNatClampNeg), .int (b2 + v1), .int (gF z 18 ((b1 * ((4 : Int32))) + v1).toNatClampNeg)]) (rest := []) C h (m_X0_bears l D t a (gF z 14 b1.toNatClampNeg) (b2 + v1) (gF z 18 ((b1 * ((4 : Int32))) + v1).toNatClampNeg) z _ hw) mw_X0_bears lm_X1_48 md_X0_bears rcX_7 ⟨by decide, by decide⟩ ⟨Nat.zero_le _, Nat.zero_le _⟩ hl.1 rfl (Nat.le_of_ble_eq_true rfl) dX1_isBorne_35 (fun r5 z4 H locs hw h => ?_)
        rw [hw.1] at h
        have hw := hw.2
        refine lv_if_ne (tgt := 43) (pc := 38) C.1 C.2.1 dX1_isBorne_38 (by decide) (fun c6 => ?_) (fun c6 => ?_)
        · have hw := hw.1 c6
          obtain ⟨x7, ex7⟩ : ∃ y : Int32, y = v1 + (1) := ⟨_, rfl⟩
          have hw := hw x7 ex7
          refine lv_iinc (v := x7) (lv' := [(3, .int x7), (0, .ref (a 13)), (1, .int b1), (2, .int b2)]) (pc := 43) C.1 C.2.1 dX1_isBorne_43 hl (k := 3) rfl (by rw [ex7]; rfl) (by decide) rfl (fun ls hl => ?_)
          refine lv_goto (tgt := 2) (pc := 46) C.1 C.2.1 dX1_isBorne_46 (by decide) ?_
          exact hw _ _ _ h (lv_sub hl [1, 2, 3, 0] rfl)
        · have hw := hw.2 c6
          refine lv_iconst (v := 0) (pc := 41) C.1 C.2.1 dX1_isBorne_41 (by decide) ?_
          exact rt_z (pc := 42) C hr hlk h (Or.inl rfl) ⟨rfl, hw⟩ dX1_isBorne_42)
  refine lv_istore_n (lv' := [(3, .int ((0 : Int32))), (0, .ref (a 13)), (1, .int b1), (2, .int b2)]) (pc := 1) C.1 C.2.1 dX1_isBorne_1 rfl hl (by decide) rfl (fun ls hl => ?_)
  exact hw _ _ _ h (lv_sub hl [1, 2, 3, 0] rfl)

def wp_X5_isQuiet_c34 (b1 : Int32) (b2 : Int32) (z : St) (P : Int32 → Prop) : Prop :=
  (vp_in b1 4 ∧ ((((((gF z 35 b1.toNatClampNeg) >>> (b2 &&& 31)) &&& ((1 : Int32))) = 0) → P ((0 : Int32))) ∧ (¬ ((((gF z 35 b1.toNatClampNeg) >>> (b2 &&& 31)) &&& ((1 : Int32))) = 0) → P ((1 : Int32)))))
set_option maxHeartbeats 4000000 in
set_option maxRecDepth 100000 in
theorem m_X5_isQuiet_c34 (l : Launch) (D : va_G) (t : Ty3) (a : Nat → Nat) (b1 : Int32) (b2 : Int32) (z : St) (P : Int32 → Prop) (hw : wp_X5_isQuiet_c34 b1 b2 z P) : CtI l D t yX5_isQuiet cX5_isQuiet 3 (some .boolean) 0 (wX t a) (wX t a z) [.ref (a 34), .int b1, .int b2] (fun rr zz => zz = z ∧ P rr) := by
  refine ctI_of (by decide) (Nat.le_of_ble_eq_true rfl) ?_
  intro p e s m args below meth c A ls C hr hlk h hl
  have hl : lv_has ls 3 [(0, .ref (a 34)), (1, .int b1), (2, .int b2)] := hl
  unfold wp_X5_isQuiet_c34 at hw
  refine lv_aload_n (pc := 0) C.1 C.2.1 dX5_isQuiet_0 rfl (lv_at hl 0 rfl) ?_
  refine GX_X5_9_34 (pc := 1) C h dX5_isQuiet_1 ?_
  refine lv_iload_n (pc := 4) C.1 C.2.1 dX5_isQuiet_4 rfl (lv_at hl 1 rfl) ?_
  refine ldX_35 (pc := 5) C h hw.1 dX5_isQuiet_5 ?_
  have hw := hw.2
  refine lv_iload_n (pc := 6) C.1 C.2.1 dX5_isQuiet_6 rfl (lv_at hl 2 rfl) ?_
  refine lv_ishr (pc := 7) C.1 C.2.1 dX5_isQuiet_7 ?_
  refine lv_iconst (v := 1) (pc := 8) C.1 C.2.1 dX5_isQuiet_8 (by decide) ?_
  refine lv_iand (pc := 9) C.1 C.2.1 dX5_isQuiet_9 ?_
  refine lv_if_eq (tgt := 17) (pc := 10) C.1 C.2.1 dX5_isQuiet_10 (by decide) (fun c1 => ?_) (fun c1 => ?_)
  · have hw := hw.1 c1
    refine lv_iconst (v := 0) (pc := 17) C.1 C.2.1 dX5_isQuiet_17 (by decide) ?_
    exact rt_z (pc := 18) C hr hlk h (Or.inl rfl) ⟨rfl, hw⟩ dX5_isQuiet_18
  · have hw := hw.2 c1
    refine lv_iconst (v := 1) (pc := 13) C.1 C.2.1 dX5_isQuiet_13 (by decide) ?_
    refine lv_goto (tgt := 18) (pc := 14) C.1 C.2.1 dX5_isQuiet_14 (by decide) ?_
    exact rt_z (pc := 18) C hr hlk h (Or.inr rfl) ⟨rfl, hw⟩ dX5_isQuiet_18

def wp_X2_mayBegin (b1 : Int32) (b2 : Int32) (z : St) (P : Int32 → Prop) : Prop :=
  (vp_in b1 16 ∧ (∀ x1 : Int32, x1 = gF z 17 b1.toNatClampNeg → (((b2 < (gI z 2104)) → P ((0 : Int32))) ∧ (¬ (b2 < (gI z 2104)) → (vp_in b1 16 ∧ (((b2 < (gF z 15 b1.toNatClampNeg)) → P ((0 : Int32))) ∧ (¬ (b2 < (gF z 15 b1.toNatClampNeg)) → (vp_in b1 16 ∧ ((((gF z 16 b1.toNatClampNeg) < b2) → P ((0 : Int32))) ∧ (¬ ((gF z 16 b1.toNatClampNeg) < b2) → ((((b2 + x1) ≤ ((168 : Int32))) → (∀ K7 : Int32 → Prop, (∀ (v6 : Int32), ((((b2 + x1) ≤ v6) → (wp_X2_isInTurn b1 b2 z (fun r10 => (((r10 = 0) → P ((0 : Int32))) ∧ (¬ (r10 = 0) → (wp_X1_isBorne b1 b2 z (fun r13 => (((r13 = 0) → P ((0 : Int32))) ∧ (¬ (r13 = 0) → P ((1 : Int32))))))))))) ∧ (¬ ((b2 + x1) ≤ v6) → (vp_in b1 16 ∧ (wp_X5_isQuiet_c34 (gF z 14 b1.toNatClampNeg) (v6 - v6 / ((24 : Int32)) * ((24 : Int32))) z (fun r16 => (((¬ r16 = 0) → P ((0 : Int32))) ∧ (r16 = 0 → (vp_in v6 168 ∧ ((((gF z 5 v6.toNatClampNeg) ≤ (gI z 3402)) → (∀ x19 : Int32, x19 = v6 + (1) → K7 x19)) ∧ (¬ ((gF z 5 v6.toNatClampNeg) ≤ (gI z 3402)) → P ((0 : Int32)))))))))))) → K7 v6) → K7 b2)) ∧ (¬ ((b2 + x1) ≤ ((168 : Int32))) → P ((0 : Int32))))))))))))))
set_option maxHeartbeats 4000000 in
set_option maxRecDepth 100000 in
theorem m_X2_mayBegin (l : Launch) (D : va_G) (t : Ty3) (a : Nat → Nat) (b1 : Int32) (b2 : Int32) (z : St) (P : Int32 → Prop) (hw : wp_X2_mayBegin b1 b2 z P) : CtI l D t yX2_mayBegin cX2_mayBegin 5 (some .boolean) 3 (wX t a) (wX t a z) [.ref (a 21), .int b1, .int b2] (fun rr zz => zz = z ∧ P rr) := by
  refine ctI_of (by decide) (Nat.le_of_ble_eq_true rfl) ?_
  intro p e s m args below meth c A ls C hr hlk h hl
  have hl : lv_has ls 5 [(0, .ref (a 21)), (1, .int b1), (2, .int b2)] := hl
  unfold wp_X2_mayBegin at hw
  refine lv_aload_n (pc := 0) C.1 C.2.1 dX2_mayBegin_0 rfl (lv_at hl 0 rfl) ?_
  refine GX_X2_15_21 (pc := 1) C h dX2_mayBegin_1 ?_
  refine GX_X2_57_13 (pc := 4) C h dX2_mayBegin_4 ?_
  refine lv_iload_n (pc := 7) C.1 C.2.1 dX2_mayBegin_7 rfl (lv_at hl 1 rfl) ?_
  refine ldX_17 (pc := 8) C h hw.1 dX2_mayBegin_8 ?_
  have hw := hw.2
  refine lv_topi (fun x1 ex1 => ?_)
  have hw := hw x1 ex1
  refine lv_istore_n (lv' := [(3, .int x1), (0, .ref (a 21)), (1, .int b1), (2, .int b2)]) (pc := 9) C.1 C.2.1 dX2_mayBegin_9 rfl hl (by decide) rfl (fun ls hl => ?_)
  refine lv_iload_n (pc := 10) C.1 C.2.1 dX2_mayBegin_10 rfl (lv_at hl 3 rfl) ?_
  refine lv_aload_n (pc := 11) C.1 C.2.1 dX2_mayBegin_11 rfl (lv_at hl 1 rfl) ?_
  refine GX_X2_35_21 (pc := 12) C h dX2_mayBegin_12 ?_
  refine lv_icmp_lt (tgt := 53) (pc := 15) C.1 C.2.1 dX2_mayBegin_15 (by decide) (fun c2 => ?_) (fun c2 => ?_)
  · have hw := hw.1 c2
    refine lv_iconst (v := 0) (pc := 53) C.1 C.2.1 dX2_mayBegin_53 (by decide) ?_
    exact rt_z (pc := 54) C hr hlk h (Or.inl rfl) ⟨rfl, hw⟩ dX2_mayBegin_54
  · have hw := hw.2 c2
    refine lv_iload_n (pc := 18) C.1 C.2.1 dX2_mayBegin_18 rfl (lv_at hl 3 rfl) ?_
    refine lv_aload_n (pc := 19) C.1 C.2.1 dX2_mayBegin_19 rfl (lv_at hl 1 rfl) ?_
    refine GX_X2_15_21 (pc := 20) C h dX2_mayBegin_20 ?_
    refine GX_X2_60_13 (pc := 23) C h dX2_mayBegin_23 ?_
    refine lv_iload_n (pc := 26) C.1 C.2.1 dX2_mayBegin_26 rfl (lv_at hl 2 rfl) ?_
    refine ldX_15 (pc := 27) C h hw.1 dX2_mayBegin_27 ?_
    have hw := hw.2
    refine lv_icmp_lt (tgt := 53) (pc := 28) C.1 C.2.1 dX2_mayBegin_28 (by decide) (fun c3 => ?_) (fun c3 => ?_)
    · have hw := hw.1 c3
      refine lv_iconst (v := 0) (pc := 53) C.1 C.2.1 dX2_mayBegin_53 (by decide) ?_
      exact rt_z (pc := 54) C hr hlk h (Or.inl rfl) ⟨rfl, hw⟩ dX2_mayBegin_54
    · have hw := hw.2 c3
      refine lv_iload_n (pc := 31) C.1 C.2.1 dX2_mayBegin_31 rfl (lv_at hl 3 rfl) ?_
      refine lv_aload_n (pc := 32) C.1 C.2.1 dX2_mayBegin_32 rfl (lv_at hl 1 rfl) ?_
      refine GX_X2_15_21 (pc := 33) C h dX2_mayBegin_33 ?_
      refine GX_X2_63_13 (pc := 36) C h dX2_mayBegin_36 ?_
      refine lv_iload_n (pc := 39) C.1 C.2.1 dX2_mayBegin_39 rfl (lv_at hl 2 rfl) ?_
      refine ldX_16 (pc := 40) C h hw.1 dX2_mayBegin_40 ?_
      have hw := hw.2
      refine lv_icmp_gt (tgt := 53) (pc := 41) C.1 C.2.1 dX2_mayBegin_41 (by decide) (fun c4 => ?_) (fun c4 => ?_)
      · have hw := hw.1 c4
        refine lv_iconst (v := 0) (pc := 53) C.1 C.2.1 dX2_mayBegin_53 (by decide) ?_
        exact rt_z (pc := 54) C hr hlk h (Or.inl rfl) ⟨rfl, hw⟩ dX2_mayBegin_54
      · have hw := hw.2 c4
        refine lv_iload_n (pc := 44) C.1 C.2.1 dX2_mayBegin_44 rfl (lv_at hl 3 rfl) ?_
        refine lv_iload_n (pc := 45) C.1 C.2.1 dX2_mayBegin_45 rfl (lv_at hl 0 rfl) ?_
        refine lv_iadd (pc := 46) C.1 C.2.1 dX2_mayBegin_46 ?_
        refine lv_sipush (v := 168) (pc := 47) C.1 C.2.1 dX2_mayBegin_47 (by decide) ?_
        refine lv_icmp_le (tgt := 55) (pc := 50) C.1 C.2.1 dX2_mayBegin_50 (by decide) (fun c5 => ?_) (fun c5 => ?_)
        · have hw := hw.1 c5
          refine lv_iload_n (pc := 55) C.1 C.2.1 dX2_mayBegin_55 rfl (lv_at hl 3 rfl) ?_
          have hw := hw (fun (v6 : Int32) => ∀ (H : Heap) (locs : List Loc) (ls : Array Slot), wd D t A s (wX t a z) H locs → lv_has ls 5 [(0, .ref (a 21)), (1, .int b1), (2, .int b2), (3, .int x1), (4, .int v6)] → W p l e (rmd 3) s m args below meth c H locs 0 0 (QI D t A (wX t a) (fun rr zz => zz = z ∧ P rr) below args s) (F0 m 58 ls [])) (by
              intro v6 hw H locs ls h hl
              refine lv_iload (pc := 58) C.1 C.2.1 dX2_mayBegin_58 (lv_at hl 4 rfl) ?_
              refine lv_iload_n (pc := 60) C.1 C.2.1 dX2_mayBegin_60 rfl (lv_at hl 2 rfl) ?_
              refine lv_iload_n (pc := 61) C.1 C.2.1 dX2_mayBegin_61 rfl (lv_at hl 3 rfl) ?_
              refine lv_iadd (pc := 62) C.1 C.2.1 dX2_mayBegin_62 ?_
              refine lv_icmp_ge (tgt := 118) (pc := 63) C.1 C.2.1 dX2_mayBegin_63 (by decide) (fun c8 => ?_) (fun c8 => ?_)
              · have hw := hw.1 c8
                refine lv_aload_n (pc := 118) C.1 C.2.1 dX2_mayBegin_118 rfl (lv_at hl 0 rfl) ?_
                refine lv_iload_n (pc := 119) C.1 C.2.1 dX2_mayBegin_119 rfl (lv_at hl 1 rfl) ?_
                refine lv_iload_n (pc := 120) C.1 C.2.1 dX2_mayBegin_120 rfl (lv_at hl 2 rfl) ?_
                refine cl_vi (pc := 121) (As := [.int b1, .int b2]) (rest := []) C h (m_X2_isInTurn l D t a b1 b2 z _ hw) mw_X2_isInTurn lm_X2_80 md_X2_isInTurn rcX_21 ⟨by decide, by decide⟩ ⟨Nat.zero_le _, Nat.zero_le _⟩ hl.1 rfl (Nat.le_of_ble_eq_true rfl) dX2_mayBegin_121 (fun r10 z9 H locs hw h => ?_)
                rw [hw.1] at h
                have hw := hw.2
                refine lv_if_eq (tgt := 143) (pc := 124) C.1 C.2.1 dX2_mayBegin_124 (by decide) (fun c11 => ?_) (fun c11 => ?_)
                · have hw := hw.1 c11
                  refine lv_iconst (v := 0) (pc := 143) C.1 C.2.1 dX2_mayBegin_143 (by decide) ?_
                  exact rt_z (pc := 144) C hr hlk h (Or.inl rfl) ⟨rfl, hw⟩ dX2_mayBegin_144
                · have hw := hw.2 c11
                  refine lv_aload_n (pc := 127) C.1 C.2.1 dX2_mayBegin_127 rfl (lv_at hl 0 rfl) ?_
                  refine GX_X2_15_21 (pc := 128) C h dX2_mayBegin_128 ?_
                  refine lv_iload_n (pc := 131) C.1 C.2.1 dX2_mayBegin_131 rfl (lv_at hl 1 rfl) ?_
                  refine lv_iload_n (pc := 132) C.1 C.2.1 dX2_mayBegin_132 rfl (lv_at hl 2 rfl) ?_
                  refine cl_vi (pc := 133) (As := [.int b1, .int b2]) (rest := []) C h (m_X1_isBorne l D t a b1 b2 z _ hw) mw_X1_isBorne lm_X2_83 md_X1_isBorne rcX_13 ⟨by decide, by decide⟩ ⟨Nat.zero_le _, Nat.zero_le _⟩ hl.1 rfl (Nat.le_of_ble_eq_true rfl) dX2_mayBegin_133 (fun r13 z12 H locs hw h => ?_)
                  rw [hw.1] at h
                  have hw := hw.2
                  refine lv_if_eq (tgt := 143) (pc := 136) C.1 C.2.1 dX2_mayBegin_136 (by decide) (fun c14 => ?_) (fun c14 => ?_)
                  · have hw := hw.1 c14
                    refine lv_iconst (v := 0) (pc := 143) C.1 C.2.1 dX2_mayBegin_143 (by decide) ?_
                    exact rt_z (pc := 144) C hr hlk h (Or.inl rfl) ⟨rfl, hw⟩ dX2_mayBegin_144
                  · have hw := hw.2 c14
                    refine lv_iconst (v := 1) (pc := 139) C.1 C.2.1 dX2_mayBegin_139 (by decide) ?_
                    refine lv_goto (tgt := 144) (pc := 140) C.1 C.2.1 dX2_mayBegin_140 (by decide) ?_
                    exact rt_z (pc := 144) C hr hlk h (Or.inr rfl) ⟨rfl, hw⟩ dX2_mayBegin_144
              · have hw := hw.2 c8
                refine lv_aload_n (pc := 66) C.1 C.2.1 dX2_mayBegin_66 rfl (lv_at hl 0 rfl) ?_
                refine GX_X2_31_21 (pc := 67) C h dX2_mayBegin_67 ?_
                refine lv_aload_n (pc := 70) C.1 C.2.1 dX2_mayBegin_70 rfl (lv_at hl 0 rfl) ?_
                refine GX_X2_15_21 (pc := 71) C h dX2_mayBegin_71 ?_
                refine GX_X2_66_13 (pc := 74) C h dX2_mayBegin_74 ?_
                refine lv_iload_n (pc := 77) C.1 C.2.1 dX2_mayBegin_77 rfl (lv_at hl 1 rfl) ?_
                refine ldX_14 (pc := 78) C h hw.1 dX2_mayBegin_78 ?_
                have hw := hw.2
                refine lv_iload (pc := 79) C.1 C.2.1 dX2_mayBegin_79 (lv_at hl 4 rfl) ?_
                refine lv_bipush (v := 24) (pc := 81) C.1 C.2.1 dX2_mayBegin_81 (by decide) ?_
                refine lv_irem (pc := 83) C.1 C.2.1 dX2_mayBegin_83 (by decide) ?_
                refine cl_vi (pc := 84) (As := [.int (gF z 14 b1.toNatClampNeg), .int (v6 - v6 / ((24 : Int32)) * ((24 : Int32)))]) (rest := []) C h (m_X5_isQuiet_c34 l D t a (gF z 14 b1.toNatClampNeg) (v6 - v6 / ((24 : Int32)) * ((24 : Int32))) z _ hw) mw_X5_isQuiet lm_X2_69 md_X5_isQuiet rcX_34 ⟨by decide, by decide⟩ ⟨Nat.zero_le _, Nat.zero_le _⟩ hl.1 rfl (Nat.le_of_ble_eq_true rfl) dX2_mayBegin_84 (fun r16 z15 H locs hw h => ?_)
                rw [hw.1] at h
                have hw := hw.2
                refine lv_if_ne (tgt := 110) (pc := 87) C.1 C.2.1 dX2_mayBegin_87 (by decide) (fun c17 => ?_) (fun c17 => ?_)
                · have hw := hw.1 c17
                  refine lv_iconst (v := 0) (pc := 110) C.1 C.2.1 dX2_mayBegin_110 (by decide) ?_
                  exact rt_z (pc := 111) C hr hlk h (Or.inl rfl) ⟨rfl, hw⟩ dX2_mayBegin_111
                · have hw := hw.2 c17
                  refine lv_aload_n (pc := 90) C.1 C.2.1 dX2_mayBegin_90 rfl (lv_at hl 0 rfl) ?_
                  refine GX_X2_9_21 (pc := 91) C h dX2_mayBegin_91 ?_
                  refine GX_X2_72_1 (pc := 94) C h dX2_mayBegin_94 ?_
                  refine lv_iload (pc := 97) C.1 C.2.1 dX2_mayBegin_97 (lv_at hl 4 rfl) ?_
                  refine ldX_5 (pc := 99) C h hw.1 dX2_mayBegin_99 ?_
                  have hw := hw.2
                  refine lv_aload_n (pc := 100) C.1 C.2.1 dX2_mayBegin_100 rfl (lv_at hl 0 rfl) ?_
                  refine GX_X2_31_21 (pc := 101) C h dX2_mayBegin_101 ?_
                  refine GX_X2_77_34 (pc := 104) C h dX2_mayBegin_104 ?_
                  refine lv_icmp_le (tgt := 112) (pc := 107) C.1 C.2.1 dX2_mayBegin_107 (by decide) (fun c18 => ?_) (fun c18 => ?_)
                  · have hw := hw.1 c18
                    obtain ⟨x19, ex19⟩ : ∃ y : Int32, y = v6 + (1) := ⟨_, rfl⟩
                    have hw := hw x19 ex19
                    refine lv_iinc (v := x19) (lv' := [(4, .int x19), (0, .ref (a 21)), (1, .int b1), (2, .int b2), (3, .int x1)]) (pc := 112) C.1 C.2.1 dX2_mayBegin_112 hl (k := 4) rfl (by rw [ex19]; rfl) (by decide) rfl (fun ls hl => ?_)
                    refine lv_goto (tgt := 58) (pc := 115) C.1 C.2.1 dX2_mayBegin_115 (by decide) ?_
                    exact hw _ _ _ h (lv_sub hl [1, 2, 3, 4, 0] rfl)
                  · have hw := hw.2 c18
                    refine lv_iconst (v := 0) (pc := 110) C.1 C.2.1 dX2_mayBegin_110 (by decide) ?_
                    exact rt_z (pc := 111) C hr hlk h (Or.inl rfl) ⟨rfl, hw⟩ dX2_mayBegin_111)
          refine lv_istore (lv' := [(4, .int b2), (3, .int x1), (0, .ref (a 21)), (1, .int b1), (2, .int b2)]) (pc := 56) C.1 C.2.1 dX2_mayBegin_56 hl (by decide) rfl (fun ls hl => ?_)
          exact hw _ _ _ h (lv_sub hl [2, 3, 4, 1, 0] rfl)
        · have hw := hw.2 c5
          refine lv_iconst (v := 0) (pc := 53) C.1 C.2.1 dX2_mayBegin_53 (by decide) ?_
          exact rt_z (pc := 54) C hr hlk h (Or.inl rfl) ⟨rfl, hw⟩ dX2_mayBegin_54
