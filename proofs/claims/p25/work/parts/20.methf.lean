def wp_X9_rules  (z : St) (P : Int32 → St → Prop) : Prop :=
  (∀ z1 : St, z1 = wI z 0 ((0 : Int32)) → (∀ z2 : St, z2 = wI z1 38 ((0 : Int32)) → (∀ z3 : St, z3 = wI z2 42 ((0 : Int32)) → (∀ z4 : St, z4 = wI z3 41 ((-1 : Int32)) → (∀ z5 : St, z5 = wI z4 34 ((0 : Int32)) → (wp_X9_next z5 (fun z6 => (∀ K8 : St → Prop, (∀ (z9 : St), (∀ z10 : St, z10 = wI z9 36 ((0 : Int32)) → ((((gI z10 42) = 0) → (∀ z12 : St, z12 = wI z10 22 (gI z10 34) → (∀ K14 : Int32 → St → Prop, (∀ (v13 : Int32) (z15 : St), ((((gI z15 22) ≤ v13) → (wp_X9_told (gI z15 22) z15 (fun r18 z17 => P r18 z17))) ∧ (¬ ((gI z15 22) ≤ v13) → (vp_in (((4 : Int32)) * v13) 80 ∧ (vp_in v13 20 ∧ (∀ z19 : St, z19 = wR z15 14 (upd (gF z15 14) v13.toNatClampNeg (gF z15 24 (((4 : Int32)) * v13).toNatClampNeg)) → (vp_in ((((4 : Int32)) * v13) + ((1 : Int32))) 80 ∧ (vp_in v13 20 ∧ (∀ z20 : St, z20 = wR z19 15 (upd (gF z19 15) v13.toNatClampNeg (gF z19 24 ((((4 : Int32)) * v13) + ((1 : Int32))).toNatClampNeg)) → (vp_in ((((4 : Int32)) * v13) + ((2 : Int32))) 80 ∧ (vp_in v13 20 ∧ (∀ z21 : St, z21 = wR z20 16 (upd (gF z20 16) v13.toNatClampNeg (gF z20 24 ((((4 : Int32)) * v13) + ((2 : Int32))).toNatClampNeg)) → (vp_in ((((4 : Int32)) * v13) + ((3 : Int32))) 80 ∧ (vp_in v13 20 ∧ (∀ z22 : St, z22 = wR z21 17 (upd (gF z21 17) v13.toNatClampNeg (gF z21 24 ((((4 : Int32)) * v13) + ((3 : Int32))).toNatClampNeg)) → (∀ x23 : Int32, x23 = v13 + (1) → K14 x23 z22))))))))))))))) → K14 v13 z15) → K14 ((0 : Int32)) z12))) ∧ (¬ ((gI z10 42) = 0) → (wp_X9_told ((-6 : Int32)) z10 (fun r25 z24 => P r25 z24))))) → K8 z9) → ((((gI z6 39) = 0) → K8 z6) ∧ (¬ ((gI z6 39) = 0) → (∀ K27 : St → Prop, (∀ (z28 : St), (∀ K29 : Prop, ((((¬ (gI z28 42) = 0) → K8 z28) ∧ ((gI z28 42) = 0 → ((((gI z28 39) = 0) → K8 z28) ∧ (¬ ((gI z28 39) = 0) → (wp_X9_must ((0 : Int32)) z28 (fun z32 => K8 z32)))))) → K29) → (((¬ (gI z28 42) = 0) → K29) ∧ ((gI z28 42) = 0 → (((¬ (gI z28 39) = ((3 : Int32))) → K29) ∧ ((gI z28 39) = ((3 : Int32)) → (((¬ (lg_cmp (gJ z28 40) ((59 : Int64))) = 0) → K29) ∧ ((lg_cmp (gJ z28 40) ((59 : Int64))) = 0 → (wp_X9_next z28 (fun z37 => (wp_X9_readRule z37 (fun z39 => K27 z39))))))))))) → K27 z28) → (wp_X9_readRule z6 (fun z41 => K27 z41)))))))))))))
set_option maxHeartbeats 4000000 in
set_option maxRecDepth 100000 in
theorem m_X9_rules (l : Launch) (D : va_G) (t : Ty3) (a : Nat → Nat)  (z : St) (P : Int32 → St → Prop) (hw : wp_X9_rules z P) : CtI l D t yX9_rules cX9_rules 2 (some .int) 5 (wM t a) (wM t a z) [.ref (a 0)] P := by
  refine ctI_of (by decide) (Nat.le_of_ble_eq_true rfl) ?_
  intro p e s m args below meth c A ls C hr hlk h hl
  have hl : lv_has ls 2 [(0, .ref (a 0))] := hl
  unfold wp_X9_rules at hw
  refine lv_aload_n (pc := 0) C.1 C.2.1 dX9_rules_0 rfl (lv_at hl 0 rfl) ?_
  refine lv_iconst (v := 0) (pc := 1) C.1 C.2.1 dX9_rules_1 (by decide) ?_
  refine PM_X9_131_0 (pc := 2) C h dX9_rules_2 (fun z1 ez1 H locs h => ?_)
  have hw := hw z1 ez1
  refine lv_aload_n (pc := 5) C.1 C.2.1 dX9_rules_5 rfl (lv_at hl 0 rfl) ?_
  refine lv_iconst (v := 0) (pc := 6) C.1 C.2.1 dX9_rules_6 (by decide) ?_
  refine PM_X9_249_0 (pc := 7) C h dX9_rules_7 (fun z2 ez2 H locs h => ?_)
  have hw := hw z2 ez2
  refine lv_aload_n (pc := 10) C.1 C.2.1 dX9_rules_10 rfl (lv_at hl 0 rfl) ?_
  refine lv_iconst (v := 0) (pc := 11) C.1 C.2.1 dX9_rules_11 (by decide) ?_
  refine PM_X9_274_0 (pc := 12) C h (Or.inl rfl) dX9_rules_12 (fun z3 ez3 H locs h => ?_)
  have hw := hw z3 ez3
  refine lv_aload_n (pc := 15) C.1 C.2.1 dX9_rules_15 rfl (lv_at hl 0 rfl) ?_
  refine lv_iconst (v := -1) (pc := 16) C.1 C.2.1 dX9_rules_16 (by decide) ?_
  refine PM_X9_94_0 (pc := 17) C h dX9_rules_17 (fun z4 ez4 H locs h => ?_)
  have hw := hw z4 ez4
  refine lv_aload_n (pc := 20) C.1 C.2.1 dX9_rules_20 rfl (lv_at hl 0 rfl) ?_
  refine lv_iconst (v := 0) (pc := 21) C.1 C.2.1 dX9_rules_21 (by decide) ?_
  refine PM_X9_288_0 (pc := 22) C h dX9_rules_22 (fun z5 ez5 H locs h => ?_)
  have hw := hw z5 ez5
  refine lv_aload_n (pc := 25) C.1 C.2.1 dX9_rules_25 rfl (lv_at hl 0 rfl) ?_
  refine cl_vv (pc := 26) (As := []) (rest := []) C h (m_X9_next l D t a z5 _ hw) mw_X9_next lm_X9_277 md_X9_next rcM_0 ⟨by decide, by decide⟩ ⟨Nat.zero_le _, Nat.zero_le _⟩ hl.1 rfl (Nat.le_of_ble_eq_true rfl) dX9_rules_26 (fun z6 H locs hw h => ?_)
  refine lv_aload_n (pc := 29) C.1 C.2.1 dX9_rules_29 rfl (lv_at hl 0 rfl) ?_
  refine GM_X9_265_0 (pc := 30) C h dX9_rules_30 ?_
  have hw := hw (fun (z9 : St) => ∀ (H : Heap) (locs : List Loc) (ls : Array Slot), wd D t A s (wM t a z9) H locs → lv_has ls 2 [(0, .ref (a 0))] → W p l e (rmd 5) s m args below meth c H locs 0 0 (QI D t A (wM t a) P below args s) (F0 m 96 ls [])) (by
      intro z9 hw H locs ls h hl
      refine lv_aload_n (pc := 96) C.1 C.2.1 dX9_rules_96 rfl (lv_at hl 0 rfl) ?_
      refine lv_iconst (v := 0) (pc := 97) C.1 C.2.1 dX9_rules_97 (by decide) ?_
      refine PM_X9_243_0 (pc := 98) C h dX9_rules_98 (fun z10 ez10 H locs h => ?_)
      have hw := hw z10 ez10
      refine lv_aload_n (pc := 101) C.1 C.2.1 dX9_rules_101 rfl (lv_at hl 0 rfl) ?_
      refine GM_X9_274_0 (pc := 102) C h dX9_rules_102 ?_
      refine lv_if_eq (tgt := 115) (pc := 105) C.1 C.2.1 dX9_rules_105 (by decide) (fun c11 => ?_) (fun c11 => ?_)
      · have hw := hw.1 c11
        refine lv_aload_n (pc := 115) C.1 C.2.1 dX9_rules_115 rfl (lv_at hl 0 rfl) ?_
        refine lv_aload_n (pc := 116) C.1 C.2.1 dX9_rules_116 rfl (lv_at hl 0 rfl) ?_
        refine GM_X9_288_0 (pc := 117) C h dX9_rules_117 ?_
        refine PM_X9_207_0 (pc := 120) C h dX9_rules_120 (fun z12 ez12 H locs h => ?_)
        have hw := hw z12 ez12
        refine lv_iconst (v := 0) (pc := 123) C.1 C.2.1 dX9_rules_123 (by decide) ?_
        have hw := hw (fun (v13 : Int32) (z15 : St) => ∀ (H : Heap) (locs : List Loc) (ls : Array Slot), wd D t A s (wM t a z15) H locs → lv_has ls 2 [(0, .ref (a 0)), (1, .int v13)] → W p l e (rmd 5) s m args below meth c H locs 0 0 (QI D t A (wM t a) P below args s) (F0 m 125 ls [])) (by
            intro v13 z15 hw H locs ls h hl
            refine lv_iload_n (pc := 125) C.1 C.2.1 dX9_rules_125 rfl (lv_at hl 1 rfl) ?_
            refine lv_aload_n (pc := 126) C.1 C.2.1 dX9_rules_126 rfl (lv_at hl 0 rfl) ?_
            refine GM_X9_207_0 (pc := 127) C h dX9_rules_127 ?_
            refine lv_icmp_ge (tgt := 201) (pc := 130) C.1 C.2.1 dX9_rules_130 (by decide) (fun c16 => ?_) (fun c16 => ?_)
            · have hw := hw.1 c16
              refine lv_aload_n (pc := 201) C.1 C.2.1 dX9_rules_201 rfl (lv_at hl 0 rfl) ?_
              refine lv_aload_n (pc := 202) C.1 C.2.1 dX9_rules_202 rfl (lv_at hl 0 rfl) ?_
              refine GM_X9_207_0 (pc := 203) C h dX9_rules_203 ?_
              refine cl_vi (pc := 206) (As := [.int (gI z15 22)]) (rest := []) C h (m_X9_told l D t a (gI z15 22) z15 _ hw) mw_X9_told lm_X9_162 md_X9_told rcM_0 ⟨by decide, by decide⟩ ⟨Nat.zero_le _, Nat.zero_le _⟩ hl.1 rfl (Nat.le_of_ble_eq_true rfl) dX9_rules_206 (fun r18 z17 H locs hw h => ?_)
              exact rt_i (pc := 209) C hr hlk h hw dX9_rules_209
            · have hw := hw.2 c16
              refine lv_aload_n (pc := 133) C.1 C.2.1 dX9_rules_133 rfl (lv_at hl 0 rfl) ?_
              refine GM_X9_57_0 (pc := 134) C h dX9_rules_134 ?_
              refine lv_iload_n (pc := 137) C.1 C.2.1 dX9_rules_137 rfl (lv_at hl 1 rfl) ?_
              refine lv_aload_n (pc := 138) C.1 C.2.1 dX9_rules_138 rfl (lv_at hl 0 rfl) ?_
              refine GM_X9_88_0 (pc := 139) C h dX9_rules_139 ?_
              refine lv_iconst (v := 4) (pc := 142) C.1 C.2.1 dX9_rules_142 (by decide) ?_
              refine lv_iload_n (pc := 143) C.1 C.2.1 dX9_rules_143 rfl (lv_at hl 1 rfl) ?_
              refine lv_imul (pc := 144) C.1 C.2.1 dX9_rules_144 ?_
              refine ldM_24 (pc := 145) C h hw.1 dX9_rules_145 ?_
              have hw := hw.2
              refine stM_14 (pc := 146) C h hw.1 dX9_rules_146 (fun z19 ez19 H locs h => ?_)
              have hw := hw.2 z19 ez19
              refine lv_aload_n (pc := 147) C.1 C.2.1 dX9_rules_147 rfl (lv_at hl 0 rfl) ?_
              refine GM_X9_60_0 (pc := 148) C h dX9_rules_148 ?_
              refine lv_iload_n (pc := 151) C.1 C.2.1 dX9_rules_151 rfl (lv_at hl 1 rfl) ?_
              refine lv_aload_n (pc := 152) C.1 C.2.1 dX9_rules_152 rfl (lv_at hl 0 rfl) ?_
              refine GM_X9_88_0 (pc := 153) C h dX9_rules_153 ?_
              refine lv_iconst (v := 4) (pc := 156) C.1 C.2.1 dX9_rules_156 (by decide) ?_
              refine lv_iload_n (pc := 157) C.1 C.2.1 dX9_rules_157 rfl (lv_at hl 1 rfl) ?_
              refine lv_imul (pc := 158) C.1 C.2.1 dX9_rules_158 ?_
              refine lv_iconst (v := 1) (pc := 159) C.1 C.2.1 dX9_rules_159 (by decide) ?_
              refine lv_iadd (pc := 160) C.1 C.2.1 dX9_rules_160 ?_
              refine ldM_24 (pc := 161) C h hw.1 dX9_rules_161 ?_
              have hw := hw.2
              refine stM_15 (pc := 162) C h hw.1 dX9_rules_162 (fun z20 ez20 H locs h => ?_)
              have hw := hw.2 z20 ez20
              refine lv_aload_n (pc := 163) C.1 C.2.1 dX9_rules_163 rfl (lv_at hl 0 rfl) ?_
              refine GM_X9_63_0 (pc := 164) C h dX9_rules_164 ?_
              refine lv_iload_n (pc := 167) C.1 C.2.1 dX9_rules_167 rfl (lv_at hl 1 rfl) ?_
              refine lv_aload_n (pc := 168) C.1 C.2.1 dX9_rules_168 rfl (lv_at hl 0 rfl) ?_
              refine GM_X9_88_0 (pc := 169) C h dX9_rules_169 ?_
              refine lv_iconst (v := 4) (pc := 172) C.1 C.2.1 dX9_rules_172 (by decide) ?_
              refine lv_iload_n (pc := 173) C.1 C.2.1 dX9_rules_173 rfl (lv_at hl 1 rfl) ?_
              refine lv_imul (pc := 174) C.1 C.2.1 dX9_rules_174 ?_
              refine lv_iconst (v := 2) (pc := 175) C.1 C.2.1 dX9_rules_175 (by decide) ?_
              refine lv_iadd (pc := 176) C.1 C.2.1 dX9_rules_176 ?_
              refine ldM_24 (pc := 177) C h hw.1 dX9_rules_177 ?_
              have hw := hw.2
              refine stM_16 (pc := 178) C h hw.1 dX9_rules_178 (fun z21 ez21 H locs h => ?_)
              have hw := hw.2 z21 ez21
              refine lv_aload_n (pc := 179) C.1 C.2.1 dX9_rules_179 rfl (lv_at hl 0 rfl) ?_
              refine GM_X9_66_0 (pc := 180) C h dX9_rules_180 ?_
              refine lv_iload_n (pc := 183) C.1 C.2.1 dX9_rules_183 rfl (lv_at hl 1 rfl) ?_
              refine lv_aload_n (pc := 184) C.1 C.2.1 dX9_rules_184 rfl (lv_at hl 0 rfl) ?_
              refine GM_X9_88_0 (pc := 185) C h dX9_rules_185 ?_
              refine lv_iconst (v := 4) (pc := 188) C.1 C.2.1 dX9_rules_188 (by decide) ?_
              refine lv_iload_n (pc := 189) C.1 C.2.1 dX9_rules_189 rfl (lv_at hl 1 rfl) ?_
              refine lv_imul (pc := 190) C.1 C.2.1 dX9_rules_190 ?_
              refine lv_iconst (v := 3) (pc := 191) C.1 C.2.1 dX9_rules_191 (by decide) ?_
              refine lv_iadd (pc := 192) C.1 C.2.1 dX9_rules_192 ?_
              refine ldM_24 (pc := 193) C h hw.1 dX9_rules_193 ?_
              have hw := hw.2
              refine stM_17 (pc := 194) C h hw.1 dX9_rules_194 (fun z22 ez22 H locs h => ?_)
              have hw := hw.2 z22 ez22
              obtain ⟨x23, ex23⟩ : ∃ y : Int32, y = v13 + (1) := ⟨_, rfl⟩
              have hw := hw x23 ex23
              refine lv_iinc (v := x23) (lv' := [(1, .int x23), (0, .ref (a 0))]) (pc := 195) C.1 C.2.1 dX9_rules_195 hl (k := 1) rfl (by rw [ex23]; rfl) (by decide) rfl (fun ls hl => ?_)
              refine lv_goto (tgt := 125) (pc := 198) C.1 C.2.1 dX9_rules_198 (by decide) ?_
              exact hw _ _ _ h (lv_sub hl [1, 0] rfl))
        refine lv_istore_n (lv' := [(1, .int ((0 : Int32))), (0, .ref (a 0))]) (pc := 124) C.1 C.2.1 dX9_rules_124 rfl hl (by decide) rfl (fun ls hl => ?_)
        exact hw _ _ _ h (lv_sub hl [1, 0] rfl)
      · have hw := hw.2 c11
        refine lv_aload_n (pc := 108) C.1 C.2.1 dX9_rules_108 rfl (lv_at hl 0 rfl) ?_
        refine lv_bipush (v := -6) (pc := 109) C.1 C.2.1 dX9_rules_109 (by decide) ?_
        refine cl_vi (pc := 111) (As := [.int ((-6 : Int32))]) (rest := []) C h (m_X9_told l D t a ((-6 : Int32)) z10 _ hw) mw_X9_told lm_X9_162 md_X9_told rcM_0 ⟨by decide, by decide⟩ ⟨Nat.zero_le _, Nat.zero_le _⟩ hl.1 rfl (Nat.le_of_ble_eq_true rfl) dX9_rules_111 (fun r25 z24 H locs hw h => ?_)
        exact rt_i (pc := 114) C hr hlk h hw dX9_rules_114)
  refine lv_if_eq (tgt := 96) (pc := 33) C.1 C.2.1 dX9_rules_33 (by decide) (fun c26 => ?_) (fun c26 => ?_)
  · have hw := hw.1 c26
    exact hw _ _ _ h (lv_sub hl [0] rfl)
  · have hw := hw.2 c26
    refine lv_aload_n (pc := 36) C.1 C.2.1 dX9_rules_36 rfl (lv_at hl 0 rfl) ?_
    have hw := hw (fun (z28 : St) => ∀ (H : Heap) (locs : List Loc) (ls : Array Slot), wd D t A s (wM t a z28) H locs → lv_has ls 2 [(0, .ref (a 0))] → W p l e (rmd 5) s m args below meth c H locs 0 0 (QI D t A (wM t a) P below args s) (F0 m 40 ls [])) (by
        intro z28 hw H locs ls h hl
        refine lv_aload_n (pc := 40) C.1 C.2.1 dX9_rules_40 rfl (lv_at hl 0 rfl) ?_
        refine GM_X9_274_0 (pc := 41) C h dX9_rules_41 ?_
        have hw := hw (∀ (H : Heap) (locs : List Loc) (ls : Array Slot), wd D t A s (wM t a z28) H locs → lv_has ls 2 [(0, .ref (a 0))] → W p l e (rmd 5) s m args below meth c H locs 0 0 (QI D t A (wM t a) P below args s) (F0 m 77 ls [])) (by
            intro hw H locs ls h hl
            refine lv_aload_n (pc := 77) C.1 C.2.1 dX9_rules_77 rfl (lv_at hl 0 rfl) ?_
            refine GM_X9_274_0 (pc := 78) C h dX9_rules_78 ?_
            refine lv_if_ne (tgt := 96) (pc := 81) C.1 C.2.1 dX9_rules_81 (by decide) (fun c30 => ?_) (fun c30 => ?_)
            · have hw := hw.1 c30
              exact hw _ _ _ h (lv_sub hl [0] rfl)
            · have hw := hw.2 c30
              refine lv_aload_n (pc := 84) C.1 C.2.1 dX9_rules_84 rfl (lv_at hl 0 rfl) ?_
              refine GM_X9_265_0 (pc := 85) C h dX9_rules_85 ?_
              refine lv_if_eq (tgt := 96) (pc := 88) C.1 C.2.1 dX9_rules_88 (by decide) (fun c31 => ?_) (fun c31 => ?_)
              · have hw := hw.1 c31
                exact hw _ _ _ h (lv_sub hl [0] rfl)
              · have hw := hw.2 c31
                refine lv_aload_n (pc := 91) C.1 C.2.1 dX9_rules_91 rfl (lv_at hl 0 rfl) ?_
                refine lv_iconst (v := 0) (pc := 92) C.1 C.2.1 dX9_rules_92 (by decide) ?_
                refine cl_vv (pc := 93) (As := [.int ((0 : Int32))]) (rest := []) C h (m_X9_must l D t a ((0 : Int32)) z28 _ hw) mw_X9_must lm_X9_280 md_X9_must rcM_0 ⟨by decide, by decide⟩ ⟨Nat.zero_le _, Nat.zero_le _⟩ hl.1 rfl (Nat.le_of_ble_eq_true rfl) dX9_rules_93 (fun z32 H locs hw h => ?_)
                exact hw _ _ _ h (lv_sub hl [0] rfl))
        refine lv_if_ne (tgt := 77) (pc := 44) C.1 C.2.1 dX9_rules_44 (by decide) (fun c34 => ?_) (fun c34 => ?_)
        · have hw := hw.1 c34
          exact hw _ _ _ h (lv_sub hl [0] rfl)
        · have hw := hw.2 c34
          refine lv_aload_n (pc := 47) C.1 C.2.1 dX9_rules_47 rfl (lv_at hl 0 rfl) ?_
          refine GM_X9_265_0 (pc := 48) C h dX9_rules_48 ?_
          refine lv_iconst (v := 3) (pc := 51) C.1 C.2.1 dX9_rules_51 (by decide) ?_
          refine lv_icmp_ne (tgt := 77) (pc := 52) C.1 C.2.1 dX9_rules_52 (by decide) (fun c35 => ?_) (fun c35 => ?_)
          · have hw := hw.1 c35
            exact hw _ _ _ h (lv_sub hl [0] rfl)
          · have hw := hw.2 c35
            refine lv_aload_n (pc := 55) C.1 C.2.1 dX9_rules_55 rfl (lv_at hl 0 rfl) ?_
            refine GM_X9_255_0 (pc := 56) C h dX9_rules_56 ?_
            refine lv_ldc2 (pc := 59) C.1 C.2.1 C.2.2.2.1 (C.2.2.2.2 _ lc_X9_302) dX9_rules_59 ?_
            refine W.lcmp (pc := 62) C.1 C.2.1 dX9_rules_62 ?_
            refine lv_if_ne (tgt := 77) (pc := 63) C.1 C.2.1 dX9_rules_63 (by decide) (fun c36 => ?_) (fun c36 => ?_)
            · have hw := hw.1 c36
              exact hw _ _ _ h (lv_sub hl [0] rfl)
            · have hw := hw.2 c36
              refine lv_aload_n (pc := 66) C.1 C.2.1 dX9_rules_66 rfl (lv_at hl 0 rfl) ?_
              refine cl_vv (pc := 67) (As := []) (rest := []) C h (m_X9_next l D t a z28 _ hw) mw_X9_next lm_X9_277 md_X9_next rcM_0 ⟨by decide, by decide⟩ ⟨Nat.zero_le _, Nat.zero_le _⟩ hl.1 rfl (Nat.le_of_ble_eq_true rfl) dX9_rules_67 (fun z37 H locs hw h => ?_)
              refine lv_aload_n (pc := 70) C.1 C.2.1 dX9_rules_70 rfl (lv_at hl 0 rfl) ?_
              refine cl_vv (pc := 71) (As := []) (rest := []) C h (m_X9_readRule l D t a z37 _ hw) mw_X9_readRule lm_X9_299 md_X9_readRule rcM_0 ⟨by decide, by decide⟩ ⟨Nat.zero_le _, Nat.zero_le _⟩ hl.1 rfl (Nat.le_of_ble_eq_true rfl) dX9_rules_71 (fun z39 H locs hw h => ?_)
              refine lv_goto (tgt := 40) (pc := 74) C.1 C.2.1 dX9_rules_74 (by decide) ?_
              exact hw _ _ _ h (lv_sub hl [0] rfl))
    refine cl_vv (pc := 37) (As := []) (rest := []) C h (m_X9_readRule l D t a z6 _ hw) mw_X9_readRule lm_X9_299 md_X9_readRule rcM_0 ⟨by decide, by decide⟩ ⟨Nat.zero_le _, Nat.zero_le _⟩ hl.1 rfl (Nat.le_of_ble_eq_true rfl) dX9_rules_37 (fun z41 H locs hw h => ?_)
    exact hw _ _ _ h (lv_sub hl [0] rfl)

def wp_X9_fault  (z : St) (P : Int32 → St → Prop) : Prop :=
  (∀ z1 : St, z1 = wI z 0 ((0 : Int32)) → P (gI z1 41) z1)
set_option maxHeartbeats 4000000 in
set_option maxRecDepth 100000 in
theorem m_X9_fault (l : Launch) (D : va_G) (t : Ty3) (a : Nat → Nat)  (z : St) (P : Int32 → St → Prop) (hw : wp_X9_fault z P) : CtI l D t yX9_fault cX9_fault 1 (some .int) 0 (wM t a) (wM t a z) [.ref (a 0)] P := by
  refine ctI_of (by decide) (Nat.le_of_ble_eq_true rfl) ?_
  intro p e s m args below meth c A ls C hr hlk h hl
  have hl : lv_has ls 1 [(0, .ref (a 0))] := hl
  unfold wp_X9_fault at hw
  refine lv_aload_n (pc := 0) C.1 C.2.1 dX9_fault_0 rfl (lv_at hl 0 rfl) ?_
  refine lv_iconst (v := 0) (pc := 1) C.1 C.2.1 dX9_fault_1 (by decide) ?_
  refine PM_X9_131_0 (pc := 2) C h dX9_fault_2 (fun z1 ez1 H locs h => ?_)
  have hw := hw z1 ez1
  refine lv_aload_n (pc := 5) C.1 C.2.1 dX9_fault_5 rfl (lv_at hl 0 rfl) ?_
  refine GM_X9_94_0 (pc := 6) C h dX9_fault_6 ?_
  exact rt_i (pc := 9) C hr hlk h hw dX9_fault_9

def wp_X9_go (b1 : Int32) (z : St) (P : Int32 → St → Prop) : Prop :=
  (∀ z1 : St, z1 = wI z 0 ((0 : Int32)) → (wp_X9_in (Int32.toInt64 b1) ((1 : Int64)) ((48 : Int64)) z1 (fun r3 => (∀ K4 : Prop, ((wp_X9_told ((-1 : Int32)) z1 (fun r6 z5 => P r6 z5)) → K4) → (((r3 = 0) → K4) ∧ (¬ (r3 = 0) → (((((gI z1 2) + b1) ≤ ((167 : Int32))) → (∀ K10 : Int32 → St → Prop, (∀ (v9 : Int32) (z11 : St), (((b1 ≤ v9) → (∀ z13 : St, z13 = wI z11 21 ((0 : Int32)) → (wp_X9_told (gI z13 2) z13 (fun r15 z14 => P r15 z14)))) ∧ (¬ (b1 ≤ v9) → (∀ K17 : Int32 → St → Prop, (∀ (v16 : Int32) (z18 : St), ((((gI z18 12) ≤ v16) → (∀ z20 : St, z20 = wI z18 2 ((gI z18 2) + ((1 : Int32))) → (∀ x21 : Int32, x21 = v9 + (1) → K10 x21 z20))) ∧ (¬ ((gI z18 12) ≤ v16) → (vp_in v16 16 ∧ (∀ K24 : Int32 → Int32 → Prop, (∀ (s22 : Int32) (s23 : Int32), (vp_in s23 16 ∧ (∀ z25 : St, z25 = wR z18 11 (upd (gF z18 11) s23.toNatClampNeg s22) → (∀ x26 : Int32, x26 = v16 + (1) → K17 x26 z25))) → K24 s22 s23) → (∀ K28 : Int32 → Prop, (∀ (s27 : Int32), (vp_in v16 16 ∧ K24 (gF z18 11 v16.toNatClampNeg) s27) → K28 s27) → (((¬ (gF z18 11 v16.toNatClampNeg) = ((1 : Int32))) → K28 v16) ∧ ((gF z18 11 v16.toNatClampNeg) = ((1 : Int32)) → (vp_in v16 16 ∧ (((¬ (gF z18 12 v16.toNatClampNeg) = (gI z18 2)) → K28 v16) ∧ ((gF z18 12 v16.toNatClampNeg) = (gI z18 2) → K24 ((2 : Int32)) v16)))))))))) → K17 v16 z18) → K17 ((0 : Int32)) z11))) → K10 v9 z11) → K10 ((0 : Int32)) z1)) ∧ (¬ (((gI z1 2) + b1) ≤ ((167 : Int32))) → K4))))))))
set_option maxHeartbeats 4000000 in
set_option maxRecDepth 100000 in
theorem m_X9_go (l : Launch) (D : va_G) (t : Ty3) (a : Nat → Nat) (b1 : Int32) (z : St) (P : Int32 → St → Prop) (hw : wp_X9_go b1 z P) : CtI l D t yX9_go cX9_go 4 (some .int) 1 (wM t a) (wM t a z) [.ref (a 0), .int b1] P := by
  refine ctI_of (by decide) (Nat.le_of_ble_eq_true rfl) ?_
  intro p e s m args below meth c A ls C hr hlk h hl
  have hl : lv_has ls 4 [(0, .ref (a 0)), (1, .int b1)] := hl
  unfold wp_X9_go at hw
  refine lv_aload_n (pc := 0) C.1 C.2.1 dX9_go_0 rfl (lv_at hl 0 rfl) ?_
  refine lv_iconst (v := 0) (pc := 1) C.1 C.2.1 dX9_go_1 (by decide) ?_
  refine PM_X9_131_0 (pc := 2) C h dX9_go_2 (fun z1 ez1 H locs h => ?_)
  have hw := hw z1 ez1
  refine lv_iload_n (pc := 5) C.1 C.2.1 dX9_go_5 rfl (lv_at hl 1 rfl) ?_
  refine lv_i2l (pc := 6) C.1 C.2.1 dX9_go_6 rfl ?_
  refine lv_lconst (v := 1) (pc := 7) C.1 C.2.1 dX9_go_7 (by decide) ?_
  refine lv_ldc2 (pc := 8) C.1 C.2.1 C.2.2.2.1 (C.2.2.2.2 _ lc_X9_241) dX9_go_8 ?_
  refine cl_si (pc := 11) (As := [.long (Int32.toInt64 b1), .long ((1 : Int64)), .long ((48 : Int64))]) (rest := []) C h (m_X9_in l D t a (Int32.toInt64 b1) ((1 : Int64)) ((48 : Int64)) z1 _ hw) mw_X9_in lm_X9_139 md_X9_in ⟨by decide, by decide⟩ ⟨Nat.zero_le _, Nat.zero_le _⟩ hl.1 rfl (Nat.le_of_ble_eq_true rfl) dX9_go_11 (fun r3 z2 H locs hw h => ?_)
  rw [hw.1] at h
  have hw := hw.2
  have hw := hw (∀ (H : Heap) (locs : List Loc) (ls : Array Slot), wd D t A s (wM t a z1) H locs → lv_has ls 4 [(0, .ref (a 0))] → W p l e (rmd 1) s m args below meth c H locs 0 0 (QI D t A (wM t a) P below args s) (F0 m 29 ls [])) (by
      intro hw H locs ls h hl
      refine lv_aload_n (pc := 29) C.1 C.2.1 dX9_go_29 rfl (lv_at hl 0 rfl) ?_
      refine lv_iconst (v := -1) (pc := 30) C.1 C.2.1 dX9_go_30 (by decide) ?_
      refine cl_vi (pc := 31) (As := [.int ((-1 : Int32))]) (rest := []) C h (m_X9_told l D t a ((-1 : Int32)) z1 _ hw) mw_X9_told lm_X9_162 md_X9_told rcM_0 ⟨by decide, by decide⟩ ⟨Nat.zero_le _, Nat.zero_le _⟩ hl.1 rfl (Nat.le_of_ble_eq_true rfl) dX9_go_31 (fun r6 z5 H locs hw h => ?_)
      exact rt_i (pc := 34) C hr hlk h hw dX9_go_34)
  refine lv_if_eq (tgt := 29) (pc := 14) C.1 C.2.1 dX9_go_14 (by decide) (fun c7 => ?_) (fun c7 => ?_)
  · have hw := hw.1 c7
    exact hw _ _ _ h (lv_sub hl [0] rfl)
  · have hw := hw.2 c7
    refine lv_aload_n (pc := 17) C.1 C.2.1 dX9_go_17 rfl (lv_at hl 0 rfl) ?_
    refine GM_X9_173_0 (pc := 18) C h dX9_go_18 ?_
    refine lv_iload_n (pc := 21) C.1 C.2.1 dX9_go_21 rfl (lv_at hl 1 rfl) ?_
    refine lv_iadd (pc := 22) C.1 C.2.1 dX9_go_22 ?_
    refine lv_sipush (v := 167) (pc := 23) C.1 C.2.1 dX9_go_23 (by decide) ?_
    refine lv_icmp_le (tgt := 35) (pc := 26) C.1 C.2.1 dX9_go_26 (by decide) (fun c8 => ?_) (fun c8 => ?_)
    · have hw := hw.1 c8
      refine lv_iconst (v := 0) (pc := 35) C.1 C.2.1 dX9_go_35 (by decide) ?_
      have hw := hw (fun (v9 : Int32) (z11 : St) => ∀ (H : Heap) (locs : List Loc) (ls : Array Slot), wd D t A s (wM t a z11) H locs → lv_has ls 4 [(0, .ref (a 0)), (1, .int b1), (2, .int v9)] → W p l e (rmd 1) s m args below meth c H locs 0 0 (QI D t A (wM t a) P below args s) (F0 m 37 ls [])) (by
          intro v9 z11 hw H locs ls h hl
          refine lv_iload_n (pc := 37) C.1 C.2.1 dX9_go_37 rfl (lv_at hl 2 rfl) ?_
          refine lv_iload_n (pc := 38) C.1 C.2.1 dX9_go_38 rfl (lv_at hl 1 rfl) ?_
          refine lv_icmp_ge (tgt := 113) (pc := 39) C.1 C.2.1 dX9_go_39 (by decide) (fun c12 => ?_) (fun c12 => ?_)
          · have hw := hw.1 c12
            refine lv_aload_n (pc := 113) C.1 C.2.1 dX9_go_113 rfl (lv_at hl 0 rfl) ?_
            refine lv_iconst (v := 0) (pc := 114) C.1 C.2.1 dX9_go_114 (by decide) ?_
            refine PM_X9_169_0 (pc := 115) C h (Or.inl rfl) dX9_go_115 (fun z13 ez13 H locs h => ?_)
            have hw := hw z13 ez13
            refine lv_aload_n (pc := 118) C.1 C.2.1 dX9_go_118 rfl (lv_at hl 0 rfl) ?_
            refine lv_aload_n (pc := 119) C.1 C.2.1 dX9_go_119 rfl (lv_at hl 0 rfl) ?_
            refine GM_X9_173_0 (pc := 120) C h dX9_go_120 ?_
            refine cl_vi (pc := 123) (As := [.int (gI z13 2)]) (rest := []) C h (m_X9_told l D t a (gI z13 2) z13 _ hw) mw_X9_told lm_X9_162 md_X9_told rcM_0 ⟨by decide, by decide⟩ ⟨Nat.zero_le _, Nat.zero_le _⟩ hl.1 rfl (Nat.le_of_ble_eq_true rfl) dX9_go_123 (fun r15 z14 H locs hw h => ?_)
            exact rt_i (pc := 126) C hr hlk h hw dX9_go_126
          · have hw := hw.2 c12
            refine lv_iconst (v := 0) (pc := 42) C.1 C.2.1 dX9_go_42 (by decide) ?_
            have hw := hw (fun (v16 : Int32) (z18 : St) => ∀ (H : Heap) (locs : List Loc) (ls : Array Slot), wd D t A s (wM t a z18) H locs → lv_has ls 4 [(0, .ref (a 0)), (1, .int b1), (2, .int v9), (3, .int v16)] → W p l e (rmd 1) s m args below meth c H locs 0 0 (QI D t A (wM t a) P below args s) (F0 m 44 ls [])) (by
                intro v16 z18 hw H locs ls h hl
                refine lv_iload_n (pc := 44) C.1 C.2.1 dX9_go_44 rfl (lv_at hl 3 rfl) ?_
                refine lv_aload_n (pc := 45) C.1 C.2.1 dX9_go_45 rfl (lv_at hl 0 rfl) ?_
                refine GM_X9_148_0 (pc := 46) C h dX9_go_46 ?_
                refine lv_icmp_ge (tgt := 97) (pc := 49) C.1 C.2.1 dX9_go_49 (by decide) (fun c19 => ?_) (fun c19 => ?_)
                · have hw := hw.1 c19
                  refine lv_aload_n (pc := 97) C.1 C.2.1 dX9_go_97 rfl (lv_at hl 0 rfl) ?_
                  refine lv_dup (pc := 98) C.1 C.2.1 dX9_go_98 rfl ?_
                  refine GM_X9_173_0 (pc := 99) C h dX9_go_99 ?_
                  refine lv_iconst (v := 1) (pc := 102) C.1 C.2.1 dX9_go_102 (by decide) ?_
                  refine lv_iadd (pc := 103) C.1 C.2.1 dX9_go_103 ?_
                  refine PM_X9_173_0 (pc := 104) C h dX9_go_104 (fun z20 ez20 H locs h => ?_)
                  have hw := hw z20 ez20
                  obtain ⟨x21, ex21⟩ : ∃ y : Int32, y = v9 + (1) := ⟨_, rfl⟩
                  have hw := hw x21 ex21
                  refine lv_iinc (v := x21) (lv' := [(2, .int x21), (0, .ref (a 0)), (1, .int b1), (3, .int v16)]) (pc := 107) C.1 C.2.1 dX9_go_107 hl (k := 2) rfl (by rw [ex21]; rfl) (by decide) rfl (fun ls hl => ?_)
                  refine lv_goto (tgt := 37) (pc := 110) C.1 C.2.1 dX9_go_110 (by decide) ?_
                  exact hw _ _ _ h (lv_sub hl [1, 2, 0] rfl)
                · have hw := hw.2 c19
                  refine lv_aload_n (pc := 52) C.1 C.2.1 dX9_go_52 rfl (lv_at hl 0 rfl) ?_
                  refine GM_X9_48_0 (pc := 53) C h dX9_go_53 ?_
                  refine lv_iload_n (pc := 56) C.1 C.2.1 dX9_go_56 rfl (lv_at hl 3 rfl) ?_
                  refine lv_aload_n (pc := 57) C.1 C.2.1 dX9_go_57 rfl (lv_at hl 0 rfl) ?_
                  refine GM_X9_48_0 (pc := 58) C h dX9_go_58 ?_
                  refine lv_iload_n (pc := 61) C.1 C.2.1 dX9_go_61 rfl (lv_at hl 3 rfl) ?_
                  refine ldM_11 (pc := 62) C h hw.1 dX9_go_62 ?_
                  have hw := hw.2
                  refine lv_iconst (v := 1) (pc := 63) C.1 C.2.1 dX9_go_63 (by decide) ?_
                  have hw := hw (fun (s22 : Int32) (s23 : Int32) => ∀ (H : Heap) (locs : List Loc) (ls : Array Slot), wd D t A s (wM t a z18) H locs → lv_has ls 4 [(0, .ref (a 0)), (1, .int b1), (2, .int v9), (3, .int v16)] → W p l e (rmd 1) s m args below meth c H locs 0 0 (QI D t A (wM t a) P below args s) (F0 m 90 ls [.int s22, .int s23, .ref (a 11)])) (by
                      intro s22 s23 hw H locs ls h hl
                      refine stM_11 (pc := 90) C h hw.1 dX9_go_90 (fun z25 ez25 H locs h => ?_)
                      have hw := hw.2 z25 ez25
                      obtain ⟨x26, ex26⟩ : ∃ y : Int32, y = v16 + (1) := ⟨_, rfl⟩
                      have hw := hw x26 ex26
                      refine lv_iinc (v := x26) (lv' := [(3, .int x26), (0, .ref (a 0)), (1, .int b1), (2, .int v9)]) (pc := 91) C.1 C.2.1 dX9_go_91 hl (k := 3) rfl (by rw [ex26]; rfl) (by decide) rfl (fun ls hl => ?_)
                      refine lv_goto (tgt := 44) (pc := 94) C.1 C.2.1 dX9_go_94 (by decide) ?_
                      exact hw _ _ _ h (lv_sub hl [1, 2, 3, 0] rfl))
                  have hw := hw (fun (s27 : Int32) => ∀ (H : Heap) (locs : List Loc) (ls : Array Slot), wd D t A s (wM t a z18) H locs → lv_has ls 4 [(0, .ref (a 0)), (1, .int b1), (2, .int v9), (3, .int v16)] → W p l e (rmd 1) s m args below meth c H locs 0 0 (QI D t A (wM t a) P below args s) (F0 m 84 ls [.int s27, .ref (a 11)])) (by
                      intro s27 hw H locs ls h hl
                      refine lv_aload_n (pc := 84) C.1 C.2.1 dX9_go_84 rfl (lv_at hl 0 rfl) ?_
                      refine GM_X9_48_0 (pc := 85) C h dX9_go_85 ?_
                      refine lv_iload_n (pc := 88) C.1 C.2.1 dX9_go_88 rfl (lv_at hl 3 rfl) ?_
                      refine ldM_11 (pc := 89) C h hw.1 dX9_go_89 ?_
                      have hw := hw.2
                      exact hw _ _ _ h (lv_sub hl [0, 1, 2, 3] rfl))
                  refine lv_icmp_ne (tgt := 84) (pc := 64) C.1 C.2.1 dX9_go_64 (by decide) (fun c29 => ?_) (fun c29 => ?_)
                  · have hw := hw.1 c29
                    exact hw _ _ _ h (lv_sub hl [0, 1, 2, 3] rfl)
                  · have hw := hw.2 c29
                    refine lv_aload_n (pc := 67) C.1 C.2.1 dX9_go_67 rfl (lv_at hl 0 rfl) ?_
                    refine GM_X9_51_0 (pc := 68) C h dX9_go_68 ?_
                    refine lv_iload_n (pc := 71) C.1 C.2.1 dX9_go_71 rfl (lv_at hl 3 rfl) ?_
                    refine ldM_12 (pc := 72) C h hw.1 dX9_go_72 ?_
                    have hw := hw.2
                    refine lv_aload_n (pc := 73) C.1 C.2.1 dX9_go_73 rfl (lv_at hl 0 rfl) ?_
                    refine GM_X9_173_0 (pc := 74) C h dX9_go_74 ?_
                    refine lv_icmp_ne (tgt := 84) (pc := 77) C.1 C.2.1 dX9_go_77 (by decide) (fun c30 => ?_) (fun c30 => ?_)
                    · have hw := hw.1 c30
                      exact hw _ _ _ h (lv_sub hl [0, 1, 2, 3] rfl)
                    · have hw := hw.2 c30
                      refine lv_iconst (v := 2) (pc := 80) C.1 C.2.1 dX9_go_80 (by decide) ?_
                      refine lv_goto (tgt := 90) (pc := 81) C.1 C.2.1 dX9_go_81 (by decide) ?_
                      exact hw _ _ _ h (lv_sub hl [0, 1, 2, 3] rfl))
            refine lv_istore_n (lv' := [(3, .int ((0 : Int32))), (0, .ref (a 0)), (1, .int b1), (2, .int v9)]) (pc := 43) C.1 C.2.1 dX9_go_43 rfl hl (by decide) rfl (fun ls hl => ?_)
            exact hw _ _ _ h (lv_sub hl [1, 2, 3, 0] rfl))
      refine lv_istore_n (lv' := [(2, .int ((0 : Int32))), (0, .ref (a 0)), (1, .int b1)]) (pc := 36) C.1 C.2.1 dX9_go_36 rfl hl (by decide) rfl (fun ls hl => ?_)
      exact hw _ _ _ h (lv_sub hl [1, 2, 0] rfl)
    · have hw := hw.2 c8
      exact hw _ _ _ h (lv_sub hl [0] rfl)

def wp_X9_load (b1 : Int32) (b2 : Int32) (z : St) (P : Int32 → St → Prop) : Prop :=
  (∀ z1 : St, z1 = wI z 0 ((0 : Int32)) → (wp_X9_isHome b1 z1 (fun r3 => (((r3 = 0) → P ((-1 : Int32)) z1) ∧ (¬ (r3 = 0) → (wp_X9_isHour b2 z1 (fun r6 => (((r6 = 0) → P ((-1 : Int32)) z1) ∧ (¬ (r6 = 0) → (wp_X9_loadOf b1 b2 ((-1 : Int32)) z1 (fun r9 => P r9 z1)))))))))))
set_option maxHeartbeats 4000000 in
set_option maxRecDepth 100000 in
theorem m_X9_load (l : Launch) (D : va_G) (t : Ty3) (a : Nat → Nat) (b1 : Int32) (b2 : Int32) (z : St) (P : Int32 → St → Prop) (hw : wp_X9_load b1 b2 z P) : CtI l D t yX9_load cX9_load 3 (some .int) 3 (wM t a) (wM t a z) [.ref (a 0), .int b1, .int b2] P := by
  refine ctI_of (by decide) (Nat.le_of_ble_eq_true rfl) ?_
  intro p e s m args below meth c A ls C hr hlk h hl
  have hl : lv_has ls 3 [(0, .ref (a 0)), (1, .int b1), (2, .int b2)] := hl
  unfold wp_X9_load at hw
  refine lv_aload_n (pc := 0) C.1 C.2.1 dX9_load_0 rfl (lv_at hl 0 rfl) ?_
  refine lv_iconst (v := 0) (pc := 1) C.1 C.2.1 dX9_load_1 (by decide) ?_
  refine PM_X9_131_0 (pc := 2) C h dX9_load_2 (fun z1 ez1 H locs h => ?_)
  have hw := hw z1 ez1
  refine lv_aload_n (pc := 5) C.1 C.2.1 dX9_load_5 rfl (lv_at hl 0 rfl) ?_
  refine lv_iload_n (pc := 6) C.1 C.2.1 dX9_load_6 rfl (lv_at hl 1 rfl) ?_
  refine cl_vi (pc := 7) (As := [.int b1]) (rest := []) C h (m_X9_isHome l D t a b1 z1 _ hw) mw_X9_isHome lm_X9_186 md_X9_isHome rcM_0 ⟨by decide, by decide⟩ ⟨Nat.zero_le _, Nat.zero_le _⟩ hl.1 rfl (Nat.le_of_ble_eq_true rfl) dX9_load_7 (fun r3 z2 H locs hw h => ?_)
  rw [hw.1] at h
  have hw := hw.2
  refine lv_if_eq (tgt := 30) (pc := 10) C.1 C.2.1 dX9_load_10 (by decide) (fun c4 => ?_) (fun c4 => ?_)
  · have hw := hw.1 c4
    refine lv_iconst (v := -1) (pc := 30) C.1 C.2.1 dX9_load_30 (by decide) ?_
    exact rt_i (pc := 31) C hr hlk h hw dX9_load_31
  · have hw := hw.2 c4
    refine lv_iload_n (pc := 13) C.1 C.2.1 dX9_load_13 rfl (lv_at hl 2 rfl) ?_
    refine cl_si (pc := 14) (As := [.int b2]) (rest := []) C h (m_X9_isHour l D t a b2 z1 _ hw) mw_X9_isHour lm_X9_151 md_X9_isHour ⟨by decide, by decide⟩ ⟨Nat.zero_le _, Nat.zero_le _⟩ hl.1 rfl (Nat.le_of_ble_eq_true rfl) dX9_load_14 (fun r6 z5 H locs hw h => ?_)
    rw [hw.1] at h
    have hw := hw.2
    refine lv_if_eq (tgt := 30) (pc := 17) C.1 C.2.1 dX9_load_17 (by decide) (fun c7 => ?_) (fun c7 => ?_)
    · have hw := hw.1 c7
      refine lv_iconst (v := -1) (pc := 30) C.1 C.2.1 dX9_load_30 (by decide) ?_
      exact rt_i (pc := 31) C hr hlk h hw dX9_load_31
    · have hw := hw.2 c7
      refine lv_aload_n (pc := 20) C.1 C.2.1 dX9_load_20 rfl (lv_at hl 0 rfl) ?_
      refine lv_iload_n (pc := 21) C.1 C.2.1 dX9_load_21 rfl (lv_at hl 1 rfl) ?_
      refine lv_iload_n (pc := 22) C.1 C.2.1 dX9_load_22 rfl (lv_at hl 2 rfl) ?_
      refine lv_iconst (v := -1) (pc := 23) C.1 C.2.1 dX9_load_23 (by decide) ?_
      refine cl_vi (pc := 24) (As := [.int b1, .int b2, .int ((-1 : Int32))]) (rest := []) C h (m_X9_loadOf l D t a b1 b2 ((-1 : Int32)) z1 _ hw) mw_X9_loadOf lm_X9_203 md_X9_loadOf rcM_0 ⟨by decide, by decide⟩ ⟨Nat.zero_le _, Nat.zero_le _⟩ hl.1 rfl (Nat.le_of_ble_eq_true rfl) dX9_load_24 (fun r9 z8 H locs hw h => ?_)
      rw [hw.1] at h
      have hw := hw.2
      refine lv_goto (tgt := 31) (pc := 27) C.1 C.2.1 dX9_load_27 (by decide) ?_
      exact rt_i (pc := 31) C hr hlk h hw dX9_load_31

def wp_X9_cost (b1 : Int32) (b2 : Int32) (z : St) (P : Int64 → St → Prop) : Prop :=
  (∀ z1 : St, z1 = wI z 0 ((0 : Int32)) → (wp_X9_isJob b1 z1 (fun r3 => (((r3 = 0) → P ((0 : Int64)) z1) ∧ (¬ (r3 = 0) → (vp_in b1 16 ∧ ((((gF z1 11 b1.toNatClampNeg) = 0) → P ((0 : Int64)) z1) ∧ (¬ ((gF z1 11 b1.toNatClampNeg) = 0) → (wp_X9_isKnown b2 z1 (fun r7 => (((r7 = 0) → P ((0 : Int64)) z1) ∧ (¬ (r7 = 0) → (vp_in b1 16 ∧ (wp_X9_costAt b1 (gF z1 12 b1.toNatClampNeg) b2 z1 (fun r10 => P r10 z1)))))))))))))))
set_option maxHeartbeats 4000000 in
set_option maxRecDepth 100000 in
theorem m_X9_cost (l : Launch) (D : va_G) (t : Ty3) (a : Nat → Nat) (b1 : Int32) (b2 : Int32) (z : St) (P : Int64 → St → Prop) (hw : wp_X9_cost b1 b2 z P) : CtL l D t yX9_cost cX9_cost 3 (some .long) 2 (wM t a) (wM t a z) [.ref (a 0), .int b1, .int b2] P := by
  refine ctL_of (by decide) (Nat.le_of_ble_eq_true rfl) ?_
  intro p e s m args below meth c A ls C hr hlk h hl
  have hl : lv_has ls 3 [(0, .ref (a 0)), (1, .int b1), (2, .int b2)] := hl
  unfold wp_X9_cost at hw
  refine lv_aload_n (pc := 0) C.1 C.2.1 dX9_cost_0 rfl (lv_at hl 0 rfl) ?_
  refine lv_iconst (v := 0) (pc := 1) C.1 C.2.1 dX9_cost_1 (by decide) ?_
  refine PM_X9_131_0 (pc := 2) C h dX9_cost_2 (fun z1 ez1 H locs h => ?_)
  have hw := hw z1 ez1
  refine lv_aload_n (pc := 5) C.1 C.2.1 dX9_cost_5 rfl (lv_at hl 0 rfl) ?_
  refine lv_iload_n (pc := 6) C.1 C.2.1 dX9_cost_6 rfl (lv_at hl 1 rfl) ?_
  refine cl_vi (pc := 7) (As := [.int b1]) (rest := []) C h (m_X9_isJob l D t a b1 z1 _ hw) mw_X9_isJob lm_X9_193 md_X9_isJob rcM_0 ⟨by decide, by decide⟩ ⟨Nat.zero_le _, Nat.zero_le _⟩ hl.1 rfl (Nat.le_of_ble_eq_true rfl) dX9_cost_7 (fun r3 z2 H locs hw h => ?_)
  rw [hw.1] at h
  have hw := hw.2
  refine lv_if_eq (tgt := 44) (pc := 10) C.1 C.2.1 dX9_cost_10 (by decide) (fun c4 => ?_) (fun c4 => ?_)
  · have hw := hw.1 c4
    refine lv_lconst (v := 0) (pc := 44) C.1 C.2.1 dX9_cost_44 (by decide) ?_
    exact rt_l (pc := 45) C hr hlk h hw dX9_cost_45
  · have hw := hw.2 c4
    refine lv_aload_n (pc := 13) C.1 C.2.1 dX9_cost_13 rfl (lv_at hl 0 rfl) ?_
    refine GM_X9_48_0 (pc := 14) C h dX9_cost_14 ?_
    refine lv_iload_n (pc := 17) C.1 C.2.1 dX9_cost_17 rfl (lv_at hl 1 rfl) ?_
    refine ldM_11 (pc := 18) C h hw.1 dX9_cost_18 ?_
    have hw := hw.2
    refine lv_if_eq (tgt := 44) (pc := 19) C.1 C.2.1 dX9_cost_19 (by decide) (fun c5 => ?_) (fun c5 => ?_)
    · have hw := hw.1 c5
      refine lv_lconst (v := 0) (pc := 44) C.1 C.2.1 dX9_cost_44 (by decide) ?_
      exact rt_l (pc := 45) C hr hlk h hw dX9_cost_45
    · have hw := hw.2 c5
      refine lv_iload_n (pc := 22) C.1 C.2.1 dX9_cost_22 rfl (lv_at hl 2 rfl) ?_
      refine cl_si (pc := 23) (As := [.int b2]) (rest := []) C h (m_X9_isKnown l D t a b2 z1 _ hw) mw_X9_isKnown lm_X9_159 md_X9_isKnown ⟨by decide, by decide⟩ ⟨Nat.zero_le _, Nat.zero_le _⟩ hl.1 rfl (Nat.le_of_ble_eq_true rfl) dX9_cost_23 (fun r7 z6 H locs hw h => ?_)
      rw [hw.1] at h
      have hw := hw.2
      refine lv_if_eq (tgt := 44) (pc := 26) C.1 C.2.1 dX9_cost_26 (by decide) (fun c8 => ?_) (fun c8 => ?_)
      · have hw := hw.1 c8
        refine lv_lconst (v := 0) (pc := 44) C.1 C.2.1 dX9_cost_44 (by decide) ?_
        exact rt_l (pc := 45) C hr hlk h hw dX9_cost_45
      · have hw := hw.2 c8
        refine lv_aload_n (pc := 29) C.1 C.2.1 dX9_cost_29 rfl (lv_at hl 0 rfl) ?_
        refine lv_iload_n (pc := 30) C.1 C.2.1 dX9_cost_30 rfl (lv_at hl 1 rfl) ?_
        refine lv_aload_n (pc := 31) C.1 C.2.1 dX9_cost_31 rfl (lv_at hl 0 rfl) ?_
        refine GM_X9_51_0 (pc := 32) C h dX9_cost_32 ?_
        refine lv_iload_n (pc := 35) C.1 C.2.1 dX9_cost_35 rfl (lv_at hl 1 rfl) ?_
        refine ldM_12 (pc := 36) C h hw.1 dX9_cost_36 ?_
        have hw := hw.2
        refine lv_iload_n (pc := 37) C.1 C.2.1 dX9_cost_37 rfl (lv_at hl 2 rfl) ?_
        refine cl_vl (pc := 38) (As := [.int b1, .int (gF z1 12 b1.toNatClampNeg), .int b2]) (rest := []) C h (m_X9_costAt l D t a b1 (gF z1 12 b1.toNatClampNeg) b2 z1 _ hw) mw_X9_costAt lm_X9_233 md_X9_costAt rcM_0 ⟨by decide, by decide⟩ ⟨Nat.zero_le _, Nat.zero_le _⟩ hl.1 rfl (Nat.le_of_ble_eq_true rfl) dX9_cost_38 (fun r10 z9 H locs hw h => ?_)
        rw [hw.1] at h
        have hw := hw.2
        refine lv_goto (tgt := 45) (pc := 41) C.1 C.2.1 dX9_cost_41 (by decide) ?_
        exact rt_l (pc := 45) C hr hlk h hw dX9_cost_45

def wp_X9_saved (b1 : Int32) (z : St) (P : Int64 → St → Prop) : Prop :=
  (∀ z1 : St, z1 = wI z 0 ((0 : Int32)) → (∀ K4 : Int64 → Int32 → Prop, (∀ (v2 : Int64) (v3 : Int32), ((((gI z1 12) ≤ v3) → P v2 z1) ∧ (¬ ((gI z1 12) ≤ v3) → (wp_X9_isKnown b1 z1 (fun r7 => (((r7 = 0) → P v2 z1) ∧ (¬ (r7 = 0) → (vp_in v3 16 ∧ (∀ K11 : Int64 → Int64 → Prop, (∀ (s9 : Int64) (s10 : Int64), (∀ x12 : Int64, x12 = s10 + s9 → (∀ x13 : Int32, x13 = v3 + (1) → K4 x12 x13)) → K11 s9 s10) → (((¬ (gF z1 11 v3.toNatClampNeg) = ((2 : Int32))) → K11 ((0 : Int64)) v2) ∧ ((gF z1 11 v3.toNatClampNeg) = ((2 : Int32)) → (vp_in v3 16 ∧ (wp_X9_costAt v3 (gF z1 7 v3.toNatClampNeg) b1 z1 (fun r16 => (vp_in v3 16 ∧ (wp_X9_costAt v3 (gF z1 12 v3.toNatClampNeg) b1 z1 (fun r18 => K11 (r16 - r18) v2)))))))))))))))) → K4 v2 v3) → K4 ((0 : Int64)) ((0 : Int32))))
set_option maxHeartbeats 4000000 in
set_option maxRecDepth 100000 in
theorem m_X9_saved (l : Launch) (D : va_G) (t : Ty3) (a : Nat → Nat) (b1 : Int32) (z : St) (P : Int64 → St → Prop) (hw : wp_X9_saved b1 z P) : CtL l D t yX9_saved cX9_saved 5 (some .long) 2 (wM t a) (wM t a z) [.ref (a 0), .int b1] P := by
  refine ctL_of (by decide) (Nat.le_of_ble_eq_true rfl) ?_
  intro p e s m args below meth c A ls C hr hlk h hl
  have hl : lv_has ls 5 [(0, .ref (a 0)), (1, .int b1)] := hl
  unfold wp_X9_saved at hw
  refine lv_aload_n (pc := 0) C.1 C.2.1 dX9_saved_0 rfl (lv_at hl 0 rfl) ?_
  refine lv_iconst (v := 0) (pc := 1) C.1 C.2.1 dX9_saved_1 (by decide) ?_
  refine PM_X9_131_0 (pc := 2) C h dX9_saved_2 (fun z1 ez1 H locs h => ?_)
  have hw := hw z1 ez1
  refine lv_lconst (v := 0) (pc := 5) C.1 C.2.1 dX9_saved_5 (by decide) ?_
  refine lv_lstore_n (lv' := [(2, .long ((0 : Int64))), (0, .ref (a 0)), (1, .int b1)]) (pc := 6) C.1 C.2.1 dX9_saved_6 rfl hl (by decide) rfl (fun ls hl => ?_)
  refine lv_iconst (v := 0) (pc := 7) C.1 C.2.1 dX9_saved_7 (by decide) ?_
  have hw := hw (fun (v2 : Int64) (v3 : Int32) => ∀ (H : Heap) (locs : List Loc) (ls : Array Slot), wd D t A s (wM t a z1) H locs → lv_has ls 5 [(0, .ref (a 0)), (1, .int b1), (2, .long v2), (4, .int v3)] → W p l e (rmd 2) s m args below meth c H locs 0 0 (QL D t A (wM t a) P below args s) (F0 m 10 ls [])) (by
      intro v2 v3 hw H locs ls h hl
      refine lv_iload (pc := 10) C.1 C.2.1 dX9_saved_10 (lv_at hl 3 rfl) ?_
      refine lv_aload_n (pc := 12) C.1 C.2.1 dX9_saved_12 rfl (lv_at hl 0 rfl) ?_
      refine GM_X9_148_0 (pc := 13) C h dX9_saved_13 ?_
      refine lv_icmp_ge (tgt := 79) (pc := 16) C.1 C.2.1 dX9_saved_16 (by decide) (fun c5 => ?_) (fun c5 => ?_)
      · have hw := hw.1 c5
        refine lv_lload_n (pc := 79) C.1 C.2.1 dX9_saved_79 rfl (lv_at hl 2 rfl) ?_
        exact rt_l (pc := 80) C hr hlk h hw dX9_saved_80
      · have hw := hw.2 c5
        refine lv_iload_n (pc := 19) C.1 C.2.1 dX9_saved_19 rfl (lv_at hl 1 rfl) ?_
        refine cl_si (pc := 20) (As := [.int b1]) (rest := []) C h (m_X9_isKnown l D t a b1 z1 _ hw) mw_X9_isKnown lm_X9_159 md_X9_isKnown ⟨by decide, by decide⟩ ⟨Nat.zero_le _, Nat.zero_le _⟩ hl.1 rfl (Nat.le_of_ble_eq_true rfl) dX9_saved_20 (fun r7 z6 H locs hw h => ?_)
        rw [hw.1] at h
        have hw := hw.2
        refine lv_if_eq (tgt := 79) (pc := 23) C.1 C.2.1 dX9_saved_23 (by decide) (fun c8 => ?_) (fun c8 => ?_)
        · have hw := hw.1 c8
          refine lv_lload_n (pc := 79) C.1 C.2.1 dX9_saved_79 rfl (lv_at hl 2 rfl) ?_
          exact rt_l (pc := 80) C hr hlk h hw dX9_saved_80
        · have hw := hw.2 c8
          refine lv_lload_n (pc := 26) C.1 C.2.1 dX9_saved_26 rfl (lv_at hl 2 rfl) ?_
          refine lv_aload_n (pc := 27) C.1 C.2.1 dX9_saved_27 rfl (lv_at hl 0 rfl) ?_
          refine GM_X9_48_0 (pc := 28) C h dX9_saved_28 ?_
          refine lv_iload (pc := 31) C.1 C.2.1 dX9_saved_31 (lv_at hl 3 rfl) ?_
          refine ldM_11 (pc := 33) C h hw.1 dX9_saved_33 ?_
          have hw := hw.2
          refine lv_iconst (v := 2) (pc := 34) C.1 C.2.1 dX9_saved_34 (by decide) ?_
          have hw := hw (fun (s9 : Int64) (s10 : Int64) => ∀ (H : Heap) (locs : List Loc) (ls : Array Slot), wd D t A s (wM t a z1) H locs → lv_has ls 5 [(0, .ref (a 0)), (1, .int b1), (4, .int v3)] → W p l e (rmd 2) s m args below meth c H locs 0 0 (QL D t A (wM t a) P below args s) (F0 m 71 ls [.long s9, .long s10])) (by
              intro s9 s10 hw H locs ls h hl
              refine lv_ladd (pc := 71) C.1 C.2.1 dX9_saved_71 ?_
              refine lv_topl (fun x12 ex12 => ?_)
              have hw := hw x12 ex12
              refine lv_lstore_n (lv' := [(2, .long x12), (0, .ref (a 0)), (1, .int b1), (4, .int v3)]) (pc := 72) C.1 C.2.1 dX9_saved_72 rfl hl (by decide) rfl (fun ls hl => ?_)
              obtain ⟨x13, ex13⟩ : ∃ y : Int32, y = v3 + (1) := ⟨_, rfl⟩
              have hw := hw x13 ex13
              refine lv_iinc (v := x13) (lv' := [(4, .int x13), (2, .long x12), (0, .ref (a 0)), (1, .int b1)]) (pc := 73) C.1 C.2.1 dX9_saved_73 hl (k := 3) rfl (by rw [ex13]; rfl) (by decide) rfl (fun ls hl => ?_)
              refine lv_goto (tgt := 10) (pc := 76) C.1 C.2.1 dX9_saved_76 (by decide) ?_
              exact hw _ _ _ h (lv_sub hl [2, 3, 1, 0] rfl))
          refine lv_icmp_ne (tgt := 70) (pc := 35) C.1 C.2.1 dX9_saved_35 (by decide) (fun c14 => ?_) (fun c14 => ?_)
          · have hw := hw.1 c14
            refine lv_lconst (v := 0) (pc := 70) C.1 C.2.1 dX9_saved_70 (by decide) ?_
            exact hw _ _ _ h (lv_sub hl [0, 1, 3] rfl)
          · have hw := hw.2 c14
            refine lv_aload_n (pc := 38) C.1 C.2.1 dX9_saved_38 rfl (lv_at hl 0 rfl) ?_
            refine lv_iload (pc := 39) C.1 C.2.1 dX9_saved_39 (lv_at hl 3 rfl) ?_
            refine lv_aload_n (pc := 41) C.1 C.2.1 dX9_saved_41 rfl (lv_at hl 0 rfl) ?_
            refine GM_X9_36_0 (pc := 42) C h dX9_saved_42 ?_
            refine lv_iload (pc := 45) C.1 C.2.1 dX9_saved_45 (lv_at hl 3 rfl) ?_
            refine ldM_7 (pc := 47) C h hw.1 dX9_saved_47 ?_
            have hw := hw.2
            refine lv_iload_n (pc := 48) C.1 C.2.1 dX9_saved_48 rfl (lv_at hl 1 rfl) ?_
            refine cl_vl (pc := 49) (As := [.int v3, .int (gF z1 7 v3.toNatClampNeg), .int b1]) (rest := [.long v2]) C h (m_X9_costAt l D t a v3 (gF z1 7 v3.toNatClampNeg) b1 z1 _ hw) mw_X9_costAt lm_X9_233 md_X9_costAt rcM_0 ⟨by decide, by decide⟩ ⟨Nat.zero_le _, Nat.zero_le _⟩ hl.1 rfl (Nat.le_of_ble_eq_true rfl) dX9_saved_49 (fun r16 z15 H locs hw h => ?_)
            rw [hw.1] at h
            have hw := hw.2
            refine lv_aload_n (pc := 52) C.1 C.2.1 dX9_saved_52 rfl (lv_at hl 0 rfl) ?_
            refine lv_iload (pc := 53) C.1 C.2.1 dX9_saved_53 (lv_at hl 3 rfl) ?_
            refine lv_aload_n (pc := 55) C.1 C.2.1 dX9_saved_55 rfl (lv_at hl 0 rfl) ?_
            refine GM_X9_51_0 (pc := 56) C h dX9_saved_56 ?_
            refine lv_iload (pc := 59) C.1 C.2.1 dX9_saved_59 (lv_at hl 3 rfl) ?_
            refine ldM_12 (pc := 61) C h hw.1 dX9_saved_61 ?_
            have hw := hw.2
            refine lv_iload_n (pc := 62) C.1 C.2.1 dX9_saved_62 rfl (lv_at hl 1 rfl) ?_
            refine cl_vl (pc := 63) (As := [.int v3, .int (gF z1 12 v3.toNatClampNeg), .int b1]) (rest := [.long r16, .long v2]) C h (m_X9_costAt l D t a v3 (gF z1 12 v3.toNatClampNeg) b1 z1 _ hw) mw_X9_costAt lm_X9_233 md_X9_costAt rcM_0 ⟨by decide, by decide⟩ ⟨Nat.zero_le _, Nat.zero_le _⟩ hl.1 rfl (Nat.le_of_ble_eq_true rfl) dX9_saved_63 (fun r18 z17 H locs hw h => ?_)
            rw [hw.1] at h
            have hw := hw.2
            refine lv_lsub (pc := 66) C.1 C.2.1 dX9_saved_66 ?_
            refine lv_goto (tgt := 71) (pc := 67) C.1 C.2.1 dX9_saved_67 (by decide) ?_
            exact hw _ _ _ h (lv_sub hl [0, 1, 3] rfl))
  refine lv_istore (lv' := [(4, .int ((0 : Int32))), (2, .long ((0 : Int64))), (0, .ref (a 0)), (1, .int b1)]) (pc := 8) C.1 C.2.1 dX9_saved_8 hl (by decide) rfl (fun ls hl => ?_)
  exact hw _ _ _ h (lv_sub hl [2, 3, 1, 0] rfl)

def wp_X9_store (b1 : Int32) (b2 : Int32) (b3 : Int32) (b4 : Int32) (b5 : Int32) (b6 : Int32) (b7 : Int32) (z : St) (P : Int32 → St → Prop) : Prop :=
  (∀ z1 : St, z1 = wI z 0 ((0 : Int32)) → (wp_X9_in (Int32.toInt64 b2) ((1 : Int64)) ((40 : Int64)) z1 (fun r3 => (∀ K4 : Prop, ((wp_X9_told ((-1 : Int32)) z1 (fun r6 z5 => P r6 z5)) → K4) → (((r3 = 0) → K4) ∧ (¬ (r3 = 0) → (wp_X9_in (Int32.toInt64 b3) ((0 : Int64)) (Int32.toInt64 b2) z1 (fun r9 => (((r9 = 0) → K4) ∧ (¬ (r9 = 0) → (wp_X9_in (Int32.toInt64 b4) ((0 : Int64)) ((10 : Int64)) z1 (fun r12 => (((r12 = 0) → K4) ∧ (¬ (r12 = 0) → (wp_X9_in (Int32.toInt64 b5) ((0 : Int64)) ((10 : Int64)) z1 (fun r15 => (((r15 = 0) → K4) ∧ (¬ (r15 = 0) → (wp_X9_in (Int32.toInt64 b6) ((0 : Int64)) ((3 : Int64)) z1 (fun r18 => (((r18 = 0) → K4) ∧ (¬ (r18 = 0) → (wp_X9_in (Int32.toInt64 b7) ((1 : Int64)) ((1000 : Int64)) z1 (fun r21 => (((¬ r21 = 0) → (wp_X9_isHome b1 z1 (fun r24 => (((¬ r24 = 0) → (((¬ (gI z1 43) = ((6 : Int32))) → (vp_in (gI z1 43) 6 ∧ (∀ z27 : St, z27 = wR z1 26 (upd (gF z1 26) (gI z1 43).toNatClampNeg b1) → (vp_in (gI z27 43) 6 ∧ (∀ z28 : St, z28 = wR z27 27 (upd (gF z27 27) (gI z27 43).toNatClampNeg b2) → (vp_in (gI z28 43) 6 ∧ (∀ z29 : St, z29 = wR z28 28 (upd (gF z28 28) (gI z28 43).toNatClampNeg b3) → (vp_in (gI z29 43) 6 ∧ (∀ z30 : St, z30 = wR z29 29 (upd (gF z29 29) (gI z29 43).toNatClampNeg b4) → (vp_in (gI z30 43) 6 ∧ (∀ z31 : St, z31 = wR z30 30 (upd (gF z30 30) (gI z30 43).toNatClampNeg b5) → (vp_in (gI z31 43) 6 ∧ (∀ z32 : St, z32 = wR z31 31 (upd (gF z31 31) (gI z31 43).toNatClampNeg b6) → (vp_in (gI z32 43) 6 ∧ (∀ z33 : St, z33 = wR z32 32 (upd (gF z32 32) (gI z32 43).toNatClampNeg b7) → (∀ z34 : St, z34 = wI z33 43 ((gI z33 43) + ((1 : Int32))) → (wp_X9_told ((gI z34 43) - ((1 : Int32))) z34 (fun r36 z35 => P r36 z35)))))))))))))))))) ∧ ((gI z1 43) = ((6 : Int32)) → (wp_X9_told ((-5 : Int32)) z1 (fun r38 z37 => P r38 z37))))) ∧ (r24 = 0 → (wp_X9_told ((-2 : Int32)) z1 (fun r40 z39 => P r40 z39))))))) ∧ (r21 = 0 → K4))))))))))))))))))))))))))
set_option maxHeartbeats 4000000 in
set_option maxRecDepth 100000 in
theorem m_X9_store (l : Launch) (D : va_G) (t : Ty3) (a : Nat → Nat) (b1 : Int32) (b2 : Int32) (b3 : Int32) (b4 : Int32) (b5 : Int32) (b6 : Int32) (b7 : Int32) (z : St) (P : Int32 → St → Prop) (hw : wp_X9_store b1 b2 b3 b4 b5 b6 b7 z P) : CtI l D t yX9_store cX9_store 8 (some .int) 2 (wM t a) (wM t a z) [.ref (a 0), .int b1, .int b2, .int b3, .int b4, .int b5, .int b6, .int b7] P := by
  refine ctI_of (by decide) (Nat.le_of_ble_eq_true rfl) ?_
  intro p e s m args below meth c A ls C hr hlk h hl
  have hl : lv_has ls 8 [(0, .ref (a 0)), (1, .int b1), (2, .int b2), (3, .int b3), (4, .int b4), (5, .int b5), (6, .int b6), (7, .int b7)] := hl
  unfold wp_X9_store at hw
  refine lv_aload_n (pc := 0) C.1 C.2.1 dX9_store_0 rfl (lv_at hl 0 rfl) ?_
  refine lv_iconst (v := 0) (pc := 1) C.1 C.2.1 dX9_store_1 (by decide) ?_
  refine PM_X9_131_0 (pc := 2) C h dX9_store_2 (fun z1 ez1 H locs h => ?_)
  have hw := hw z1 ez1
  refine lv_iload_n (pc := 5) C.1 C.2.1 dX9_store_5 rfl (lv_at hl 2 rfl) ?_
  refine lv_i2l (pc := 6) C.1 C.2.1 dX9_store_6 rfl ?_
  refine lv_lconst (v := 1) (pc := 7) C.1 C.2.1 dX9_store_7 (by decide) ?_
  refine lv_ldc2 (pc := 8) C.1 C.2.1 C.2.2.2.1 (C.2.2.2.2 _ lc_X9_304) dX9_store_8 ?_
  refine cl_si (pc := 11) (As := [.long (Int32.toInt64 b2), .long ((1 : Int64)), .long ((40 : Int64))]) (rest := []) C h (m_X9_in l D t a (Int32.toInt64 b2) ((1 : Int64)) ((40 : Int64)) z1 _ hw) mw_X9_in lm_X9_139 md_X9_in ⟨by decide, by decide⟩ ⟨Nat.zero_le _, Nat.zero_le _⟩ hl.1 rfl (Nat.le_of_ble_eq_true rfl) dX9_store_11 (fun r3 z2 H locs hw h => ?_)
  rw [hw.1] at h
  have hw := hw.2
  have hw := hw (∀ (H : Heap) (locs : List Loc) (ls : Array Slot), wd D t A s (wM t a z1) H locs → lv_has ls 8 [(0, .ref (a 0))] → W p l e (rmd 2) s m args below meth c H locs 0 0 (QI D t A (wM t a) P below args s) (F0 m 80 ls [])) (by
      intro hw H locs ls h hl
      refine lv_aload_n (pc := 80) C.1 C.2.1 dX9_store_80 rfl (lv_at hl 0 rfl) ?_
      refine lv_iconst (v := -1) (pc := 81) C.1 C.2.1 dX9_store_81 (by decide) ?_
      refine cl_vi (pc := 82) (As := [.int ((-1 : Int32))]) (rest := []) C h (m_X9_told l D t a ((-1 : Int32)) z1 _ hw) mw_X9_told lm_X9_162 md_X9_told rcM_0 ⟨by decide, by decide⟩ ⟨Nat.zero_le _, Nat.zero_le _⟩ hl.1 rfl (Nat.le_of_ble_eq_true rfl) dX9_store_82 (fun r6 z5 H locs hw h => ?_)
      exact rt_i (pc := 85) C hr hlk h hw dX9_store_85)
  refine lv_if_eq (tgt := 80) (pc := 14) C.1 C.2.1 dX9_store_14 (by decide) (fun c7 => ?_) (fun c7 => ?_)
  · have hw := hw.1 c7
    exact hw _ _ _ h (lv_sub hl [0] rfl)
  · have hw := hw.2 c7
    refine lv_iload_n (pc := 17) C.1 C.2.1 dX9_store_17 rfl (lv_at hl 3 rfl) ?_
    refine lv_i2l (pc := 18) C.1 C.2.1 dX9_store_18 rfl ?_
    refine lv_lconst (v := 0) (pc := 19) C.1 C.2.1 dX9_store_19 (by decide) ?_
    refine lv_iload_n (pc := 20) C.1 C.2.1 dX9_store_20 rfl (lv_at hl 2 rfl) ?_
    refine lv_i2l (pc := 21) C.1 C.2.1 dX9_store_21 rfl ?_
    refine cl_si (pc := 22) (As := [.long (Int32.toInt64 b3), .long ((0 : Int64)), .long (Int32.toInt64 b2)]) (rest := []) C h (m_X9_in l D t a (Int32.toInt64 b3) ((0 : Int64)) (Int32.toInt64 b2) z1 _ hw) mw_X9_in lm_X9_139 md_X9_in ⟨by decide, by decide⟩ ⟨Nat.zero_le _, Nat.zero_le _⟩ hl.1 rfl (Nat.le_of_ble_eq_true rfl) dX9_store_22 (fun r9 z8 H locs hw h => ?_)
    rw [hw.1] at h
    have hw := hw.2
    refine lv_if_eq (tgt := 80) (pc := 25) C.1 C.2.1 dX9_store_25 (by decide) (fun c10 => ?_) (fun c10 => ?_)
    · have hw := hw.1 c10
      exact hw _ _ _ h (lv_sub hl [0] rfl)
    · have hw := hw.2 c10
      refine lv_iload (pc := 28) C.1 C.2.1 dX9_store_28 (lv_at hl 4 rfl) ?_
      refine lv_i2l (pc := 30) C.1 C.2.1 dX9_store_30 rfl ?_
      refine lv_lconst (v := 0) (pc := 31) C.1 C.2.1 dX9_store_31 (by decide) ?_
      refine lv_ldc2 (pc := 32) C.1 C.2.1 C.2.2.2.1 (C.2.2.2.2 _ lc_X9_196) dX9_store_32 ?_
      refine cl_si (pc := 35) (As := [.long (Int32.toInt64 b4), .long ((0 : Int64)), .long ((10 : Int64))]) (rest := []) C h (m_X9_in l D t a (Int32.toInt64 b4) ((0 : Int64)) ((10 : Int64)) z1 _ hw) mw_X9_in lm_X9_139 md_X9_in ⟨by decide, by decide⟩ ⟨Nat.zero_le _, Nat.zero_le _⟩ hl.1 rfl (Nat.le_of_ble_eq_true rfl) dX9_store_35 (fun r12 z11 H locs hw h => ?_)
      rw [hw.1] at h
      have hw := hw.2
      refine lv_if_eq (tgt := 80) (pc := 38) C.1 C.2.1 dX9_store_38 (by decide) (fun c13 => ?_) (fun c13 => ?_)
      · have hw := hw.1 c13
        exact hw _ _ _ h (lv_sub hl [0] rfl)
      · have hw := hw.2 c13
        refine lv_iload (pc := 41) C.1 C.2.1 dX9_store_41 (lv_at hl 5 rfl) ?_
        refine lv_i2l (pc := 43) C.1 C.2.1 dX9_store_43 rfl ?_
        refine lv_lconst (v := 0) (pc := 44) C.1 C.2.1 dX9_store_44 (by decide) ?_
        refine lv_ldc2 (pc := 45) C.1 C.2.1 C.2.2.2.1 (C.2.2.2.2 _ lc_X9_196) dX9_store_45 ?_
        refine cl_si (pc := 48) (As := [.long (Int32.toInt64 b5), .long ((0 : Int64)), .long ((10 : Int64))]) (rest := []) C h (m_X9_in l D t a (Int32.toInt64 b5) ((0 : Int64)) ((10 : Int64)) z1 _ hw) mw_X9_in lm_X9_139 md_X9_in ⟨by decide, by decide⟩ ⟨Nat.zero_le _, Nat.zero_le _⟩ hl.1 rfl (Nat.le_of_ble_eq_true rfl) dX9_store_48 (fun r15 z14 H locs hw h => ?_)
        rw [hw.1] at h
        have hw := hw.2
        refine lv_if_eq (tgt := 80) (pc := 51) C.1 C.2.1 dX9_store_51 (by decide) (fun c16 => ?_) (fun c16 => ?_)
        · have hw := hw.1 c16
          exact hw _ _ _ h (lv_sub hl [0] rfl)
        · have hw := hw.2 c16
          refine lv_iload (pc := 54) C.1 C.2.1 dX9_store_54 (lv_at hl 6 rfl) ?_
          refine lv_i2l (pc := 56) C.1 C.2.1 dX9_store_56 rfl ?_
          refine lv_lconst (v := 0) (pc := 57) C.1 C.2.1 dX9_store_57 (by decide) ?_
          refine lv_ldc2 (pc := 58) C.1 C.2.1 C.2.2.2.1 (C.2.2.2.2 _ lc_X9_291) dX9_store_58 ?_
          refine cl_si (pc := 61) (As := [.long (Int32.toInt64 b6), .long ((0 : Int64)), .long ((3 : Int64))]) (rest := []) C h (m_X9_in l D t a (Int32.toInt64 b6) ((0 : Int64)) ((3 : Int64)) z1 _ hw) mw_X9_in lm_X9_139 md_X9_in ⟨by decide, by decide⟩ ⟨Nat.zero_le _, Nat.zero_le _⟩ hl.1 rfl (Nat.le_of_ble_eq_true rfl) dX9_store_61 (fun r18 z17 H locs hw h => ?_)
          rw [hw.1] at h
          have hw := hw.2
          refine lv_if_eq (tgt := 80) (pc := 64) C.1 C.2.1 dX9_store_64 (by decide) (fun c19 => ?_) (fun c19 => ?_)
          · have hw := hw.1 c19
            exact hw _ _ _ h (lv_sub hl [0] rfl)
          · have hw := hw.2 c19
            refine lv_iload (pc := 67) C.1 C.2.1 dX9_store_67 (lv_at hl 7 rfl) ?_
            refine lv_i2l (pc := 69) C.1 C.2.1 dX9_store_69 rfl ?_
            refine lv_lconst (v := 1) (pc := 70) C.1 C.2.1 dX9_store_70 (by decide) ?_
            refine lv_ldc2 (pc := 71) C.1 C.2.1 C.2.2.2.1 (C.2.2.2.2 _ lc_X9_143) dX9_store_71 ?_
            refine cl_si (pc := 74) (As := [.long (Int32.toInt64 b7), .long ((1 : Int64)), .long ((1000 : Int64))]) (rest := []) C h (m_X9_in l D t a (Int32.toInt64 b7) ((1 : Int64)) ((1000 : Int64)) z1 _ hw) mw_X9_in lm_X9_139 md_X9_in ⟨by decide, by decide⟩ ⟨Nat.zero_le _, Nat.zero_le _⟩ hl.1 rfl (Nat.le_of_ble_eq_true rfl) dX9_store_74 (fun r21 z20 H locs hw h => ?_)
            rw [hw.1] at h
            have hw := hw.2
            refine lv_if_ne (tgt := 86) (pc := 77) C.1 C.2.1 dX9_store_77 (by decide) (fun c22 => ?_) (fun c22 => ?_)
            · have hw := hw.1 c22
              refine lv_aload_n (pc := 86) C.1 C.2.1 dX9_store_86 rfl (lv_at hl 0 rfl) ?_
              refine lv_iload_n (pc := 87) C.1 C.2.1 dX9_store_87 rfl (lv_at hl 1 rfl) ?_
              refine cl_vi (pc := 88) (As := [.int b1]) (rest := []) C h (m_X9_isHome l D t a b1 z1 _ hw) mw_X9_isHome lm_X9_186 md_X9_isHome rcM_0 ⟨by decide, by decide⟩ ⟨Nat.zero_le _, Nat.zero_le _⟩ hl.1 rfl (Nat.le_of_ble_eq_true rfl) dX9_store_88 (fun r24 z23 H locs hw h => ?_)
              rw [hw.1] at h
              have hw := hw.2
              refine lv_if_ne (tgt := 101) (pc := 91) C.1 C.2.1 dX9_store_91 (by decide) (fun c25 => ?_) (fun c25 => ?_)
              · have hw := hw.1 c25
                refine lv_aload_n (pc := 101) C.1 C.2.1 dX9_store_101 rfl (lv_at hl 0 rfl) ?_
                refine GM_X9_306_0 (pc := 102) C h dX9_store_102 ?_
                refine lv_bipush (v := 6) (pc := 105) C.1 C.2.1 dX9_store_105 (by decide) ?_
                refine lv_icmp_ne (tgt := 117) (pc := 107) C.1 C.2.1 dX9_store_107 (by decide) (fun c26 => ?_) (fun c26 => ?_)
                · have hw := hw.1 c26
                  refine lv_aload_n (pc := 117) C.1 C.2.1 dX9_store_117 rfl (lv_at hl 0 rfl) ?_
                  refine GM_X9_97_0 (pc := 118) C h dX9_store_118 ?_
                  refine lv_aload_n (pc := 121) C.1 C.2.1 dX9_store_121 rfl (lv_at hl 0 rfl) ?_
                  refine GM_X9_306_0 (pc := 122) C h dX9_store_122 ?_
                  refine lv_iload_n (pc := 125) C.1 C.2.1 dX9_store_125 rfl (lv_at hl 1 rfl) ?_
                  refine stM_26 (pc := 126) C h hw.1 dX9_store_126 (fun z27 ez27 H locs h => ?_)
                  have hw := hw.2 z27 ez27
                  refine lv_aload_n (pc := 127) C.1 C.2.1 dX9_store_127 rfl (lv_at hl 0 rfl) ?_
                  refine GM_X9_100_0 (pc := 128) C h dX9_store_128 ?_
                  refine lv_aload_n (pc := 131) C.1 C.2.1 dX9_store_131 rfl (lv_at hl 0 rfl) ?_
                  refine GM_X9_306_0 (pc := 132) C h dX9_store_132 ?_
                  refine lv_iload_n (pc := 135) C.1 C.2.1 dX9_store_135 rfl (lv_at hl 2 rfl) ?_
                  refine stM_27 (pc := 136) C h hw.1 dX9_store_136 (fun z28 ez28 H locs h => ?_)
                  have hw := hw.2 z28 ez28
                  refine lv_aload_n (pc := 137) C.1 C.2.1 dX9_store_137 rfl (lv_at hl 0 rfl) ?_
                  refine GM_X9_103_0 (pc := 138) C h dX9_store_138 ?_
                  refine lv_aload_n (pc := 141) C.1 C.2.1 dX9_store_141 rfl (lv_at hl 0 rfl) ?_
                  refine GM_X9_306_0 (pc := 142) C h dX9_store_142 ?_
                  refine lv_iload_n (pc := 145) C.1 C.2.1 dX9_store_145 rfl (lv_at hl 3 rfl) ?_
                  refine stM_28 (pc := 146) C h hw.1 dX9_store_146 (fun z29 ez29 H locs h => ?_)
                  have hw := hw.2 z29 ez29
                  refine lv_aload_n (pc := 147) C.1 C.2.1 dX9_store_147 rfl (lv_at hl 0 rfl) ?_
                  refine GM_X9_106_0 (pc := 148) C h dX9_store_148 ?_
                  refine lv_aload_n (pc := 151) C.1 C.2.1 dX9_store_151 rfl (lv_at hl 0 rfl) ?_
                  refine GM_X9_306_0 (pc := 152) C h dX9_store_152 ?_
                  refine lv_iload (pc := 155) C.1 C.2.1 dX9_store_155 (lv_at hl 4 rfl) ?_
                  refine stM_29 (pc := 157) C h hw.1 dX9_store_157 (fun z30 ez30 H locs h => ?_)
                  have hw := hw.2 z30 ez30
                  refine lv_aload_n (pc := 158) C.1 C.2.1 dX9_store_158 rfl (lv_at hl 0 rfl) ?_
                  refine GM_X9_109_0 (pc := 159) C h dX9_store_159 ?_
                  refine lv_aload_n (pc := 162) C.1 C.2.1 dX9_store_162 rfl (lv_at hl 0 rfl) ?_
                  refine GM_X9_306_0 (pc := 163) C h dX9_store_163 ?_
                  refine lv_iload (pc := 166) C.1 C.2.1 dX9_store_166 (lv_at hl 5 rfl) ?_
                  refine stM_30 (pc := 168) C h hw.1 dX9_store_168 (fun z31 ez31 H locs h => ?_)
                  have hw := hw.2 z31 ez31
                  refine lv_aload_n (pc := 169) C.1 C.2.1 dX9_store_169 rfl (lv_at hl 0 rfl) ?_
                  refine GM_X9_112_0 (pc := 170) C h dX9_store_170 ?_
                  refine lv_aload_n (pc := 173) C.1 C.2.1 dX9_store_173 rfl (lv_at hl 0 rfl) ?_
                  refine GM_X9_306_0 (pc := 174) C h dX9_store_174 ?_
                  refine lv_iload (pc := 177) C.1 C.2.1 dX9_store_177 (lv_at hl 6 rfl) ?_
                  refine stM_31 (pc := 179) C h hw.1 dX9_store_179 (fun z32 ez32 H locs h => ?_)
                  have hw := hw.2 z32 ez32
                  refine lv_aload_n (pc := 180) C.1 C.2.1 dX9_store_180 rfl (lv_at hl 0 rfl) ?_
                  refine GM_X9_115_0 (pc := 181) C h dX9_store_181 ?_
                  refine lv_aload_n (pc := 184) C.1 C.2.1 dX9_store_184 rfl (lv_at hl 0 rfl) ?_
                  refine GM_X9_306_0 (pc := 185) C h dX9_store_185 ?_
                  refine lv_iload (pc := 188) C.1 C.2.1 dX9_store_188 (lv_at hl 7 rfl) ?_
                  refine stM_32 (pc := 190) C h hw.1 dX9_store_190 (fun z33 ez33 H locs h => ?_)
                  have hw := hw.2 z33 ez33
                  refine lv_aload_n (pc := 191) C.1 C.2.1 dX9_store_191 rfl (lv_at hl 0 rfl) ?_
                  refine lv_dup (pc := 192) C.1 C.2.1 dX9_store_192 rfl ?_
                  refine GM_X9_306_0 (pc := 193) C h dX9_store_193 ?_
                  refine lv_iconst (v := 1) (pc := 196) C.1 C.2.1 dX9_store_196 (by decide) ?_
                  refine lv_iadd (pc := 197) C.1 C.2.1 dX9_store_197 ?_
                  refine PM_X9_306_0 (pc := 198) C h dX9_store_198 (fun z34 ez34 H locs h => ?_)
                  have hw := hw z34 ez34
                  refine lv_aload_n (pc := 201) C.1 C.2.1 dX9_store_201 rfl (lv_at hl 0 rfl) ?_
                  refine lv_aload_n (pc := 202) C.1 C.2.1 dX9_store_202 rfl (lv_at hl 0 rfl) ?_
                  refine GM_X9_306_0 (pc := 203) C h dX9_store_203 ?_
                  refine lv_iconst (v := 1) (pc := 206) C.1 C.2.1 dX9_store_206 (by decide) ?_
                  refine lv_isub (pc := 207) C.1 C.2.1 dX9_store_207 ?_
                  refine cl_vi (pc := 208) (As := [.int ((gI z34 43) - ((1 : Int32)))]) (rest := []) C h (m_X9_told l D t a ((gI z34 43) - ((1 : Int32))) z34 _ hw) mw_X9_told lm_X9_162 md_X9_told rcM_0 ⟨by decide, by decide⟩ ⟨Nat.zero_le _, Nat.zero_le _⟩ hl.1 rfl (Nat.le_of_ble_eq_true rfl) dX9_store_208 (fun r36 z35 H locs hw h => ?_)
                  exact rt_i (pc := 211) C hr hlk h hw dX9_store_211
                · have hw := hw.2 c26
                  refine lv_aload_n (pc := 110) C.1 C.2.1 dX9_store_110 rfl (lv_at hl 0 rfl) ?_
                  refine lv_bipush (v := -5) (pc := 111) C.1 C.2.1 dX9_store_111 (by decide) ?_
                  refine cl_vi (pc := 113) (As := [.int ((-5 : Int32))]) (rest := []) C h (m_X9_told l D t a ((-5 : Int32)) z1 _ hw) mw_X9_told lm_X9_162 md_X9_told rcM_0 ⟨by decide, by decide⟩ ⟨Nat.zero_le _, Nat.zero_le _⟩ hl.1 rfl (Nat.le_of_ble_eq_true rfl) dX9_store_113 (fun r38 z37 H locs hw h => ?_)
                  exact rt_i (pc := 116) C hr hlk h hw dX9_store_116
              · have hw := hw.2 c25
                refine lv_aload_n (pc := 94) C.1 C.2.1 dX9_store_94 rfl (lv_at hl 0 rfl) ?_
                refine lv_bipush (v := -2) (pc := 95) C.1 C.2.1 dX9_store_95 (by decide) ?_
                refine cl_vi (pc := 97) (As := [.int ((-2 : Int32))]) (rest := []) C h (m_X9_told l D t a ((-2 : Int32)) z1 _ hw) mw_X9_told lm_X9_162 md_X9_told rcM_0 ⟨by decide, by decide⟩ ⟨Nat.zero_le _, Nat.zero_le _⟩ hl.1 rfl (Nat.le_of_ble_eq_true rfl) dX9_store_97 (fun r40 z39 H locs hw h => ?_)
                exact rt_i (pc := 100) C hr hlk h hw dX9_store_100
            · have hw := hw.2 c22
              exact hw _ _ _ h (lv_sub hl [0] rfl)

def wp_X9_isStore (b1 : Int32) (z : St) (P : Int32 → Prop) : Prop :=
  (wp_X9_in (Int32.toInt64 b1) ((0 : Int64)) ((Int32.toInt64 (gI z 43)) - ((1 : Int64))) z (fun r2 => ((r2 = 0 ∨ r2 = 1) ∧ P r2)))
set_option maxHeartbeats 4000000 in
set_option maxRecDepth 100000 in
theorem m_X9_isStore (l : Launch) (D : va_G) (t : Ty3) (a : Nat → Nat) (b1 : Int32) (z : St) (P : Int32 → Prop) (hw : wp_X9_isStore b1 z P) : CtI l D t yX9_isStore cX9_isStore 2 (some .boolean) 1 (wM t a) (wM t a z) [.ref (a 0), .int b1] (fun rr zz => zz = z ∧ P rr) := by
  refine ctI_of (by decide) (Nat.le_of_ble_eq_true rfl) ?_
  intro p e s m args below meth c A ls C hr hlk h hl
  have hl : lv_has ls 2 [(0, .ref (a 0)), (1, .int b1)] := hl
  unfold wp_X9_isStore at hw
  refine lv_iload_n (pc := 0) C.1 C.2.1 dX9_isStore_0 rfl (lv_at hl 1 rfl) ?_
  refine lv_i2l (pc := 1) C.1 C.2.1 dX9_isStore_1 rfl ?_
  refine lv_lconst (v := 0) (pc := 2) C.1 C.2.1 dX9_isStore_2 (by decide) ?_
  refine lv_aload_n (pc := 3) C.1 C.2.1 dX9_isStore_3 rfl (lv_at hl 0 rfl) ?_
  refine GM_X9_306_0 (pc := 4) C h dX9_isStore_4 ?_
  refine lv_i2l (pc := 7) C.1 C.2.1 dX9_isStore_7 rfl ?_
  refine lv_lconst (v := 1) (pc := 8) C.1 C.2.1 dX9_isStore_8 (by decide) ?_
  refine lv_lsub (pc := 9) C.1 C.2.1 dX9_isStore_9 ?_
  refine cl_si (pc := 10) (As := [.long (Int32.toInt64 b1), .long ((0 : Int64)), .long ((Int32.toInt64 (gI z 43)) - ((1 : Int64)))]) (rest := []) C h (m_X9_in l D t a (Int32.toInt64 b1) ((0 : Int64)) ((Int32.toInt64 (gI z 43)) - ((1 : Int64))) z _ hw) mw_X9_in lm_X9_139 md_X9_in ⟨by decide, by decide⟩ ⟨Nat.zero_le _, Nat.zero_le _⟩ hl.1 rfl (Nat.le_of_ble_eq_true rfl) dX9_isStore_10 (fun r2 z1 H locs hw h => ?_)
  rw [hw.1] at h
  have hw := hw.2
  exact rt_z (pc := 13) C hr hlk h hw.1 ⟨rfl, hw.2⟩ dX9_isStore_13

def wp_X9_level (b1 : Int32) (b2 : Int32) (z : St) (P : Int32 → St → Prop) : Prop :=
  (∀ z1 : St, z1 = wI z 0 ((0 : Int32)) → (((0 ≤ b2) → (wp_X9_isStore b1 z1 (fun r4 => (((¬ r4 = 0) → (vp_in b1 6 ∧ (((b2 ≤ (gF z1 27 b1.toNatClampNeg)) → (vp_in b1 6 ∧ (∀ x7 : Int32, x7 = gF z1 28 b1.toNatClampNeg → (vp_in b1 6 ∧ (∀ z8 : St, z8 = wR z1 28 (upd (gF z1 28) b1.toNatClampNeg b2) → (wp_X9_told x7 z8 (fun r10 z9 => P r10 z9))))))) ∧ (¬ (b2 ≤ (gF z1 27 b1.toNatClampNeg)) → (wp_X9_told ((-1 : Int32)) z1 (fun r12 z11 => P r12 z11)))))) ∧ (r4 = 0 → (wp_X9_told ((-2 : Int32)) z1 (fun r14 z13 => P r14 z13))))))) ∧ (¬ (0 ≤ b2) → (wp_X9_told ((-1 : Int32)) z1 (fun r16 z15 => P r16 z15)))))
set_option maxHeartbeats 4000000 in
set_option maxRecDepth 100000 in
theorem m_X9_level (l : Launch) (D : va_G) (t : Ty3) (a : Nat → Nat) (b1 : Int32) (b2 : Int32) (z : St) (P : Int32 → St → Prop) (hw : wp_X9_level b1 b2 z P) : CtI l D t yX9_level cX9_level 4 (some .int) 2 (wM t a) (wM t a z) [.ref (a 0), .int b1, .int b2] P := by
  refine ctI_of (by decide) (Nat.le_of_ble_eq_true rfl) ?_
  intro p e s m args below meth c A ls C hr hlk h hl
  have hl : lv_has ls 4 [(0, .ref (a 0)), (1, .int b1), (2, .int b2)] := hl
  unfold wp_X9_level at hw
  refine lv_aload_n (pc := 0) C.1 C.2.1 dX9_level_0 rfl (lv_at hl 0 rfl) ?_
  refine lv_iconst (v := 0) (pc := 1) C.1 C.2.1 dX9_level_1 (by decide) ?_
  refine PM_X9_131_0 (pc := 2) C h dX9_level_2 (fun z1 ez1 H locs h => ?_)
  have hw := hw z1 ez1
  refine lv_iload_n (pc := 5) C.1 C.2.1 dX9_level_5 rfl (lv_at hl 2 rfl) ?_
  refine lv_if_ge (tgt := 15) (pc := 6) C.1 C.2.1 dX9_level_6 (by decide) (fun c2 => ?_) (fun c2 => ?_)
  · have hw := hw.1 c2
    refine lv_aload_n (pc := 15) C.1 C.2.1 dX9_level_15 rfl (lv_at hl 0 rfl) ?_
    refine lv_iload_n (pc := 16) C.1 C.2.1 dX9_level_16 rfl (lv_at hl 1 rfl) ?_
    refine cl_vi (pc := 17) (As := [.int b1]) (rest := []) C h (m_X9_isStore l D t a b1 z1 _ hw) mw_X9_isStore lm_X9_309 md_X9_isStore rcM_0 ⟨by decide, by decide⟩ ⟨Nat.zero_le _, Nat.zero_le _⟩ hl.1 rfl (Nat.le_of_ble_eq_true rfl) dX9_level_17 (fun r4 z3 H locs hw h => ?_)
    rw [hw.1] at h
    have hw := hw.2
    refine lv_if_ne (tgt := 30) (pc := 20) C.1 C.2.1 dX9_level_20 (by decide) (fun c5 => ?_) (fun c5 => ?_)
    · have hw := hw.1 c5
      refine lv_iload_n (pc := 30) C.1 C.2.1 dX9_level_30 rfl (lv_at hl 2 rfl) ?_
      refine lv_aload_n (pc := 31) C.1 C.2.1 dX9_level_31 rfl (lv_at hl 0 rfl) ?_
      refine GM_X9_100_0 (pc := 32) C h dX9_level_32 ?_
      refine lv_iload_n (pc := 35) C.1 C.2.1 dX9_level_35 rfl (lv_at hl 1 rfl) ?_
      refine ldM_27 (pc := 36) C h hw.1 dX9_level_36 ?_
      have hw := hw.2
      refine lv_icmp_le (tgt := 46) (pc := 37) C.1 C.2.1 dX9_level_37 (by decide) (fun c6 => ?_) (fun c6 => ?_)
      · have hw := hw.1 c6
        refine lv_aload_n (pc := 46) C.1 C.2.1 dX9_level_46 rfl (lv_at hl 0 rfl) ?_
        refine GM_X9_103_0 (pc := 47) C h dX9_level_47 ?_
        refine lv_iload_n (pc := 50) C.1 C.2.1 dX9_level_50 rfl (lv_at hl 1 rfl) ?_
        refine ldM_28 (pc := 51) C h hw.1 dX9_level_51 ?_
        have hw := hw.2
        refine lv_topi (fun x7 ex7 => ?_)
        have hw := hw x7 ex7
        refine lv_istore_n (lv' := [(3, .int x7), (0, .ref (a 0)), (1, .int b1), (2, .int b2)]) (pc := 52) C.1 C.2.1 dX9_level_52 rfl hl (by decide) rfl (fun ls hl => ?_)
        refine lv_aload_n (pc := 53) C.1 C.2.1 dX9_level_53 rfl (lv_at hl 1 rfl) ?_
        refine GM_X9_103_0 (pc := 54) C h dX9_level_54 ?_
        refine lv_iload_n (pc := 57) C.1 C.2.1 dX9_level_57 rfl (lv_at hl 2 rfl) ?_
        refine lv_iload_n (pc := 58) C.1 C.2.1 dX9_level_58 rfl (lv_at hl 3 rfl) ?_
        refine stM_28 (pc := 59) C h hw.1 dX9_level_59 (fun z8 ez8 H locs h => ?_)
        have hw := hw.2 z8 ez8
        refine lv_aload_n (pc := 60) C.1 C.2.1 dX9_level_60 rfl (lv_at hl 1 rfl) ?_
        refine lv_iload_n (pc := 61) C.1 C.2.1 dX9_level_61 rfl (lv_at hl 0 rfl) ?_
        refine cl_vi (pc := 62) (As := [.int x7]) (rest := []) C h (m_X9_told l D t a x7 z8 _ hw) mw_X9_told lm_X9_162 md_X9_told rcM_0 ⟨by decide, by decide⟩ ⟨Nat.zero_le _, Nat.zero_le _⟩ hl.1 rfl (Nat.le_of_ble_eq_true rfl) dX9_level_62 (fun r10 z9 H locs hw h => ?_)
        exact rt_i (pc := 65) C hr hlk h hw dX9_level_65
      · have hw := hw.2 c6
        refine lv_aload_n (pc := 40) C.1 C.2.1 dX9_level_40 rfl (lv_at hl 0 rfl) ?_
        refine lv_iconst (v := -1) (pc := 41) C.1 C.2.1 dX9_level_41 (by decide) ?_
        refine cl_vi (pc := 42) (As := [.int ((-1 : Int32))]) (rest := []) C h (m_X9_told l D t a ((-1 : Int32)) z1 _ hw) mw_X9_told lm_X9_162 md_X9_told rcM_0 ⟨by decide, by decide⟩ ⟨Nat.zero_le _, Nat.zero_le _⟩ hl.1 rfl (Nat.le_of_ble_eq_true rfl) dX9_level_42 (fun r12 z11 H locs hw h => ?_)
        exact rt_i (pc := 45) C hr hlk h hw dX9_level_45
    · have hw := hw.2 c5
      refine lv_aload_n (pc := 23) C.1 C.2.1 dX9_level_23 rfl (lv_at hl 0 rfl) ?_
      refine lv_bipush (v := -2) (pc := 24) C.1 C.2.1 dX9_level_24 (by decide) ?_
      refine cl_vi (pc := 26) (As := [.int ((-2 : Int32))]) (rest := []) C h (m_X9_told l D t a ((-2 : Int32)) z1 _ hw) mw_X9_told lm_X9_162 md_X9_told rcM_0 ⟨by decide, by decide⟩ ⟨Nat.zero_le _, Nat.zero_le _⟩ hl.1 rfl (Nat.le_of_ble_eq_true rfl) dX9_level_26 (fun r14 z13 H locs hw h => ?_)
      exact rt_i (pc := 29) C hr hlk h hw dX9_level_29
  · have hw := hw.2 c2
    refine lv_aload_n (pc := 9) C.1 C.2.1 dX9_level_9 rfl (lv_at hl 0 rfl) ?_
    refine lv_iconst (v := -1) (pc := 10) C.1 C.2.1 dX9_level_10 (by decide) ?_
    refine cl_vi (pc := 11) (As := [.int ((-1 : Int32))]) (rest := []) C h (m_X9_told l D t a ((-1 : Int32)) z1 _ hw) mw_X9_told lm_X9_162 md_X9_told rcM_0 ⟨by decide, by decide⟩ ⟨Nat.zero_le _, Nat.zero_le _⟩ hl.1 rfl (Nat.le_of_ble_eq_true rfl) dX9_level_11 (fun r16 z15 H locs hw h => ?_)
    exact rt_i (pc := 14) C hr hlk h hw dX9_level_14

def wp_X9_afterwards (b1 : Int32) (b2 : Int32) (z : St) (P : Int32 → Prop) : Prop :=
  (vp_in b1 6 ∧ ((((gF z 31 b1.toNatClampNeg) ≤ b2) → (vp_in b1 6 ∧ P (b2 - (gF z 31 b1.toNatClampNeg)))) ∧ (¬ ((gF z 31 b1.toNatClampNeg) ≤ b2) → P ((0 : Int32)))))
set_option maxHeartbeats 4000000 in
set_option maxRecDepth 100000 in
theorem m_X9_afterwards (l : Launch) (D : va_G) (t : Ty3) (a : Nat → Nat) (b1 : Int32) (b2 : Int32) (z : St) (P : Int32 → Prop) (hw : wp_X9_afterwards b1 b2 z P) : CtI l D t yX9_afterwards cX9_afterwards 3 (some .int) 0 (wM t a) (wM t a z) [.ref (a 0), .int b1, .int b2] (fun rr zz => zz = z ∧ P rr) := by
  refine ctI_of (by decide) (Nat.le_of_ble_eq_true rfl) ?_
  intro p e s m args below meth c A ls C hr hlk h hl
  have hl : lv_has ls 3 [(0, .ref (a 0)), (1, .int b1), (2, .int b2)] := hl
  unfold wp_X9_afterwards at hw
  refine lv_iload_n (pc := 0) C.1 C.2.1 dX9_afterwards_0 rfl (lv_at hl 2 rfl) ?_
  refine lv_aload_n (pc := 1) C.1 C.2.1 dX9_afterwards_1 rfl (lv_at hl 0 rfl) ?_
  refine GM_X9_112_0 (pc := 2) C h dX9_afterwards_2 ?_
  refine lv_iload_n (pc := 5) C.1 C.2.1 dX9_afterwards_5 rfl (lv_at hl 1 rfl) ?_
  refine ldM_31 (pc := 6) C h hw.1 dX9_afterwards_6 ?_
  have hw := hw.2
  refine lv_icmp_ge (tgt := 14) (pc := 7) C.1 C.2.1 dX9_afterwards_7 (by decide) (fun c1 => ?_) (fun c1 => ?_)
  · have hw := hw.1 c1
    refine lv_iload_n (pc := 14) C.1 C.2.1 dX9_afterwards_14 rfl (lv_at hl 2 rfl) ?_
    refine lv_aload_n (pc := 15) C.1 C.2.1 dX9_afterwards_15 rfl (lv_at hl 0 rfl) ?_
    refine GM_X9_112_0 (pc := 16) C h dX9_afterwards_16 ?_
    refine lv_iload_n (pc := 19) C.1 C.2.1 dX9_afterwards_19 rfl (lv_at hl 1 rfl) ?_
    refine ldM_31 (pc := 20) C h hw.1 dX9_afterwards_20 ?_
    have hw := hw.2
    refine lv_isub (pc := 21) C.1 C.2.1 dX9_afterwards_21 ?_
    exact rt_i (pc := 22) C hr hlk h ⟨rfl, hw⟩ dX9_afterwards_22
  · have hw := hw.2 c1
    refine lv_iconst (v := 0) (pc := 10) C.1 C.2.1 dX9_afterwards_10 (by decide) ?_
    refine lv_goto (tgt := 22) (pc := 11) C.1 C.2.1 dX9_afterwards_11 (by decide) ?_
    exact rt_i (pc := 22) C hr hlk h ⟨rfl, hw⟩ dX9_afterwards_22

def wp_X9_goes (b1 : Int32) (b2 : Int32) (b3 : Int32) (b4 : Int32) (b5 : Int32) (z : St) (P : Int32 → Prop) : Prop :=
  (vp_in b1 6 ∧ (wp_X9_in (Int32.toInt64 (b2 + b3)) ((0 : Int64)) (Int32.toInt64 (gF z 27 b1.toNatClampNeg)) z (fun r2 => (((¬ r2 = 0) → (vp_in b1 6 ∧ (∀ x4 : Int32, x4 = b3 * (gF z 32 b1.toNatClampNeg) → (((b3 = 0) → P ((1 : Int32))) ∧ (¬ (b3 = 0) → (((b3 ≤ 0) → (((b5 < (-x4)) → P ((0 : Int32))) ∧ (¬ (b5 < (-x4)) → P ((1 : Int32))))) ∧ (¬ (b3 ≤ 0) → (vp_in b1 6 ∧ (vp_in (gF z 26 b1.toNatClampNeg) 4 ∧ ((((gF z 4 (gF z 26 b1.toNatClampNeg).toNatClampNeg) < (b5 + x4)) → P ((0 : Int32))) ∧ (¬ ((gF z 4 (gF z 26 b1.toNatClampNeg).toNatClampNeg) < (b5 + x4)) → P ((1 : Int32))))))))))))) ∧ (r2 = 0 → P ((0 : Int32)))))))
set_option maxHeartbeats 4000000 in
set_option maxRecDepth 100000 in
theorem m_X9_goes (l : Launch) (D : va_G) (t : Ty3) (a : Nat → Nat) (b1 : Int32) (b2 : Int32) (b3 : Int32) (b4 : Int32) (b5 : Int32) (z : St) (P : Int32 → Prop) (hw : wp_X9_goes b1 b2 b3 b4 b5 z P) : CtI l D t yX9_goes cX9_goes 7 (some .boolean) 1 (wM t a) (wM t a z) [.ref (a 0), .int b1, .int b2, .int b3, .int b4, .int b5] (fun rr zz => zz = z ∧ P rr) := by
  refine ctI_of (by decide) (Nat.le_of_ble_eq_true rfl) ?_
  intro p e s m args below meth c A ls C hr hlk h hl
  have hl : lv_has ls 7 [(0, .ref (a 0)), (1, .int b1), (2, .int b2), (3, .int b3), (4, .int b4), (5, .int b5)] := hl
  unfold wp_X9_goes at hw
  refine lv_iload_n (pc := 0) C.1 C.2.1 dX9_goes_0 rfl (lv_at hl 2 rfl) ?_
  refine lv_iload_n (pc := 1) C.1 C.2.1 dX9_goes_1 rfl (lv_at hl 3 rfl) ?_
  refine lv_iadd (pc := 2) C.1 C.2.1 dX9_goes_2 ?_
  refine lv_i2l (pc := 3) C.1 C.2.1 dX9_goes_3 rfl ?_
  refine lv_lconst (v := 0) (pc := 4) C.1 C.2.1 dX9_goes_4 (by decide) ?_
  refine lv_aload_n (pc := 5) C.1 C.2.1 dX9_goes_5 rfl (lv_at hl 0 rfl) ?_
  refine GM_X9_100_0 (pc := 6) C h dX9_goes_6 ?_
  refine lv_iload_n (pc := 9) C.1 C.2.1 dX9_goes_9 rfl (lv_at hl 1 rfl) ?_
  refine ldM_27 (pc := 10) C h hw.1 dX9_goes_10 ?_
  have hw := hw.2
  refine lv_i2l (pc := 11) C.1 C.2.1 dX9_goes_11 rfl ?_
  refine cl_si (pc := 12) (As := [.long (Int32.toInt64 (b2 + b3)), .long ((0 : Int64)), .long (Int32.toInt64 (gF z 27 b1.toNatClampNeg))]) (rest := []) C h (m_X9_in l D t a (Int32.toInt64 (b2 + b3)) ((0 : Int64)) (Int32.toInt64 (gF z 27 b1.toNatClampNeg)) z _ hw) mw_X9_in lm_X9_139 md_X9_in ⟨by decide, by decide⟩ ⟨Nat.zero_le _, Nat.zero_le _⟩ hl.1 rfl (Nat.le_of_ble_eq_true rfl) dX9_goes_12 (fun r2 z1 H locs hw h => ?_)
  rw [hw.1] at h
  have hw := hw.2
  refine lv_if_ne (tgt := 20) (pc := 15) C.1 C.2.1 dX9_goes_15 (by decide) (fun c3 => ?_) (fun c3 => ?_)
  · have hw := hw.1 c3
    refine lv_iload_n (pc := 20) C.1 C.2.1 dX9_goes_20 rfl (lv_at hl 3 rfl) ?_
    refine lv_aload_n (pc := 21) C.1 C.2.1 dX9_goes_21 rfl (lv_at hl 0 rfl) ?_
    refine GM_X9_115_0 (pc := 22) C h dX9_goes_22 ?_
    refine lv_iload_n (pc := 25) C.1 C.2.1 dX9_goes_25 rfl (lv_at hl 1 rfl) ?_
    refine ldM_32 (pc := 26) C h hw.1 dX9_goes_26 ?_
    have hw := hw.2
    refine lv_imul (pc := 27) C.1 C.2.1 dX9_goes_27 ?_
    refine lv_topi (fun x4 ex4 => ?_)
    have hw := hw x4 ex4
    refine lv_istore (lv' := [(6, .int x4), (0, .ref (a 0)), (1, .int b1), (2, .int b2), (3, .int b3), (4, .int b4), (5, .int b5)]) (pc := 28) C.1 C.2.1 dX9_goes_28 hl (by decide) rfl (fun ls hl => ?_)
    refine lv_iload_n (pc := 30) C.1 C.2.1 dX9_goes_30 rfl (lv_at hl 4 rfl) ?_
    refine lv_if_eq (tgt := 68) (pc := 31) C.1 C.2.1 dX9_goes_31 (by decide) (fun c5 => ?_) (fun c5 => ?_)
    · have hw := hw.1 c5
      refine lv_iconst (v := 1) (pc := 68) C.1 C.2.1 dX9_goes_68 (by decide) ?_
      refine lv_goto (tgt := 73) (pc := 69) C.1 C.2.1 dX9_goes_69 (by decide) ?_
      exact rt_z (pc := 73) C hr hlk h (Or.inr rfl) ⟨rfl, hw⟩ dX9_goes_73
    · have hw := hw.2 c5
      refine lv_iload_n (pc := 34) C.1 C.2.1 dX9_goes_34 rfl (lv_at hl 4 rfl) ?_
      refine lv_if_le (tgt := 60) (pc := 35) C.1 C.2.1 dX9_goes_35 (by decide) (fun c6 => ?_) (fun c6 => ?_)
      · have hw := hw.1 c6
        refine lv_iload (pc := 60) C.1 C.2.1 dX9_goes_60 (lv_at hl 0 rfl) ?_
        refine lv_ineg (pc := 62) C.1 C.2.1 dX9_goes_62 ?_
        refine lv_iload (pc := 63) C.1 C.2.1 dX9_goes_63 (lv_at hl 6 rfl) ?_
        refine lv_icmp_gt (tgt := 72) (pc := 65) C.1 C.2.1 dX9_goes_65 (by decide) (fun c7 => ?_) (fun c7 => ?_)
        · have hw := hw.1 c7
          refine lv_iconst (v := 0) (pc := 72) C.1 C.2.1 dX9_goes_72 (by decide) ?_
          exact rt_z (pc := 73) C hr hlk h (Or.inl rfl) ⟨rfl, hw⟩ dX9_goes_73
        · have hw := hw.2 c7
          refine lv_iconst (v := 1) (pc := 68) C.1 C.2.1 dX9_goes_68 (by decide) ?_
          refine lv_goto (tgt := 73) (pc := 69) C.1 C.2.1 dX9_goes_69 (by decide) ?_
          exact rt_z (pc := 73) C hr hlk h (Or.inr rfl) ⟨rfl, hw⟩ dX9_goes_73
      · have hw := hw.2 c6
        refine lv_iload (pc := 38) C.1 C.2.1 dX9_goes_38 (lv_at hl 6 rfl) ?_
        refine lv_iload (pc := 40) C.1 C.2.1 dX9_goes_40 (lv_at hl 0 rfl) ?_
        refine lv_iadd (pc := 42) C.1 C.2.1 dX9_goes_42 ?_
        refine lv_aload_n (pc := 43) C.1 C.2.1 dX9_goes_43 rfl (lv_at hl 1 rfl) ?_
        refine GM_X9_23_0 (pc := 44) C h dX9_goes_44 ?_
        refine lv_aload_n (pc := 47) C.1 C.2.1 dX9_goes_47 rfl (lv_at hl 1 rfl) ?_
        refine GM_X9_97_0 (pc := 48) C h dX9_goes_48 ?_
        refine lv_iload_n (pc := 51) C.1 C.2.1 dX9_goes_51 rfl (lv_at hl 2 rfl) ?_
        refine ldM_26 (pc := 52) C h hw.1 dX9_goes_52 ?_
        have hw := hw.2
        refine ldM_4 (pc := 53) C h hw.1 dX9_goes_53 ?_
        have hw := hw.2
        refine lv_icmp_gt (tgt := 72) (pc := 54) C.1 C.2.1 dX9_goes_54 (by decide) (fun c8 => ?_) (fun c8 => ?_)
        · have hw := hw.1 c8
          refine lv_iconst (v := 0) (pc := 72) C.1 C.2.1 dX9_goes_72 (by decide) ?_
          exact rt_z (pc := 73) C hr hlk h (Or.inl rfl) ⟨rfl, hw⟩ dX9_goes_73
        · have hw := hw.2 c8
          refine lv_goto (tgt := 68) (pc := 57) C.1 C.2.1 dX9_goes_57 (by decide) ?_
          refine lv_iconst (v := 1) (pc := 68) C.1 C.2.1 dX9_goes_68 (by decide) ?_
          refine lv_goto (tgt := 73) (pc := 69) C.1 C.2.1 dX9_goes_69 (by decide) ?_
          exact rt_z (pc := 73) C hr hlk h (Or.inr rfl) ⟨rfl, hw⟩ dX9_goes_73
  · have hw := hw.2 c3
    refine lv_iconst (v := 0) (pc := 18) C.1 C.2.1 dX9_goes_18 (by decide) ?_
    exact rt_z (pc := 19) C hr hlk h (Or.inl rfl) ⟨rfl, hw⟩ dX9_goes_19
