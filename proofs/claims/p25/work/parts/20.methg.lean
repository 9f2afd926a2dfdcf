def wp_X9_fill (b1 : Int32) (b2 : Int32) (b3 : Int32) (z : St) (P : Int64 → St → Prop) : Prop :=
  (∀ z1 : St, z1 = wI z 0 ((0 : Int32)) → (wp_X9_in (Int32.toInt64 b2) ((1 : Int64)) ((48 : Int64)) z1 (fun r3 => (∀ K4 : Prop, ((∀ z5 : St, z5 = wI z1 1 ((-1 : Int32)) → P ((-4000000000000000001 : Int64)) z5) → K4) → (((r3 = 0) → K4) ∧ (¬ (r3 = 0) → (((((168 : Int32)) < ((gI z1 2) + b2)) → K4) ∧ (¬ (((168 : Int32)) < ((gI z1 2) + b2)) → (((b3 < 0) → K4) ∧ (¬ (b3 < 0) → (wp_X9_isStore b1 z1 (fun r10 => (∀ K11 : Prop, ((wp_X9_isStore b1 z1 (fun r13 => (((¬ r13 = 0) → (vp_in b1 6 ∧ (∀ x15 : Int32, x15 = (gF z1 27 b1.toNatClampNeg) + ((1 : Int32)) → (∀ K17 : Int32 → St → Prop, (∀ (v16 : Int32) (z18 : St), (((x15 ≤ v16) → (∀ K21 : Int32 → St → Prop, (∀ (v20 : Int32) (z22 : St), (((v20 < 0) → (vp_in b1 6 ∧ (vp_in (gF z22 28 b1.toNatClampNeg) 2009 ∧ (((¬ (gF z22 34 (gF z22 28 b1.toNatClampNeg).toNatClampNeg) = 0) → (vp_in b1 6 ∧ (∀ x25 : Int32, x25 = gF z22 28 b1.toNatClampNeg → (∀ K28 : Int32 → Int32 → St → Prop, (∀ (v26 : Int32) (v27 : Int32) (z29 : St), (((b2 ≤ v27) → (∀ z31 : St, z31 = wI z29 55 b2 → (∀ z32 : St, z32 = wI z31 1 ((0 : Int32)) → (vp_in b1 6 ∧ (vp_in (gF z32 28 b1.toNatClampNeg) 2009 ∧ P (gG z32 33 (gF z32 28 b1.toNatClampNeg).toNatClampNeg) z32))))) ∧ (¬ (b2 ≤ v27) → (vp_in b1 6 ∧ (wp_X9_loadOf (gF z29 26 b1.toNatClampNeg) ((gI z29 2) + v27) ((-1 : Int32)) z29 (fun r34 => (wp_X9_priceOf ((gI z29 2) + v27) (gI z29 2) z29 (fun r36 => (vp_in b1 6 ∧ (∀ x37 : Int64, x37 = (Int32.toInt64 r36) * (Int32.toInt64 (gF z29 32 b1.toNatClampNeg)) → (vp_in b1 6 ∧ (∀ x38 : Int32, x38 = -(gF z29 30 b1.toNatClampNeg) → (∀ K41 : Int32 → Int32 → Prop, (∀ (v39 : Int32) (v40 : Int32), (((¬ v40 = 0) → (vp_in v27 48 ∧ (∀ z43 : St, z43 = wR z29 35 (upd (gF z29 35) v27.toNatClampNeg v39) → (wp_X9_afterwards b1 (v26 + v39) z43 (fun r45 => (vp_in v27 48 ∧ (∀ z46 : St, z46 = wR z43 36 (upd (gF z43 36) v27.toNatClampNeg r45) → (∀ x47 : Int32, x47 = v27 + (1) → K28 r45 x47 z46)))))))) ∧ (v40 = 0 → (wp_X9_goes b1 v26 v39 ((gI z29 2) + v27) r34 z29 (fun r49 => (∀ K51 : Int32 → Prop, (∀ (s50 : Int32), (∀ K53 : Int32 → Prop, (∀ (s52 : Int32), (∀ K56 : Int32 → Int32 → Prop, (∀ (s54 : Int32) (s55 : Int32), (∀ x57 : Int32, x57 = s55 + s54 → K41 x57 s52) → K56 s54 s55) → (((s52 = 0) → K56 ((1 : Int32)) v39) ∧ (¬ (s52 = 0) → K56 ((0 : Int32)) v39))) → K53 s52) → (∀ K59 : Prop, (K53 ((0 : Int32)) → K59) → (((r49 = 0) → K59) ∧ (¬ (r49 = 0) → (vp_in s50 2009 ∧ ((((gF z29 34 s50.toNatClampNeg) = 0) → K59) ∧ (¬ ((gF z29 34 s50.toNatClampNeg) = 0) → (vp_in s50 2009 ∧ (vp_in ((((41 : Int32)) * v27) + v26) 2009 ∧ (((¬ (lg_cmp ((gG z29 33 s50.toNatClampNeg) + ((Int32.toInt64 v39) * x37)) (gG z29 33 ((((41 : Int32)) * v27) + v26).toNatClampNeg)) = 0) → K59) ∧ ((lg_cmp ((gG z29 33 s50.toNatClampNeg) + ((Int32.toInt64 v39) * x37)) (gG z29 33 ((((41 : Int32)) * v27) + v26).toNatClampNeg)) = 0 → K53 ((1 : Int32))))))))))))) → K51 s50) → (((r49 = 0) → K51 ((0 : Int32))) ∧ (¬ (r49 = 0) → (wp_X9_afterwards b1 (v26 + v39) z29 (fun r65 => K51 (((((41 : Int32)) * v27) + ((41 : Int32))) + r65)))))))))) → K41 v39 v40) → K41 x38 ((0 : Int32)))))))))))))) → K28 v26 v27 z29) → K28 x25 ((0 : Int32)) z22)))) ∧ ((gF z22 34 (gF z22 28 b1.toNatClampNeg).toNatClampNeg) = 0 → (∀ z66 : St, z66 = wI z22 1 ((-6 : Int32)) → P ((-4000000000000000006 : Int64)) z66)))))) ∧ (¬ (v20 < 0) → (vp_in b1 6 ∧ (wp_X9_loadOf (gF z22 26 b1.toNatClampNeg) ((gI z22 2) + v20) ((-1 : Int32)) z22 (fun r68 => (wp_X9_priceOf ((gI z22 2) + v20) (gI z22 2) z22 (fun r70 => (vp_in b1 6 ∧ (∀ x71 : Int64, x71 = (Int32.toInt64 r70) * (Int32.toInt64 (gF z22 32 b1.toNatClampNeg)) → (∀ K73 : Int32 → St → Prop, (∀ (v72 : Int32) (z74 : St), (((x15 ≤ v72) → (∀ x76 : Int32, x76 = v20 + (-1) → K21 x76 z74)) ∧ (¬ (x15 ≤ v72) → (vp_in ((((41 : Int32)) * v20) + v72) 2009 ∧ (∀ z77 : St, z77 = wR z74 34 (upd (gF z74 34) ((((41 : Int32)) * v20) + v72).toNatClampNeg (vp_nar .boolean ((0 : Int32)))) → (vp_in b1 6 ∧ (∀ K79 : Int32 → St → Prop, (∀ (v78 : Int32) (z80 : St), (vp_in b1 6 ∧ ((((gF z80 29 b1.toNatClampNeg) < v78) → (∀ x82 : Int32, x82 = v72 + (1) → K73 x82 z80)) ∧ (¬ ((gF z80 29 b1.toNatClampNeg) < v78) → (wp_X9_goes b1 v72 v78 ((gI z80 2) + v20) r68 z80 (fun r84 => (∀ K85 : St → Prop, (∀ (z86 : St), (∀ x87 : Int32, x87 = v78 + (1) → K79 x87 z86) → K85 z86) → (((¬ r84 = 0) → (wp_X9_afterwards b1 (v72 + v78) z80 (fun r90 => (∀ x91 : Int32, x91 = ((((41 : Int32)) * v20) + ((41 : Int32))) + r90 → (vp_in x91 2009 ∧ ((((gF z80 34 x91.toNatClampNeg) = 0) → K85 z80) ∧ (¬ ((gF z80 34 x91.toNatClampNeg) = 0) → (vp_in ((((41 : Int32)) * v20) + v72) 2009 ∧ (∀ K93 : Prop, ((vp_in ((((41 : Int32)) * v20) + v72) 2009 ∧ (∀ z94 : St, z94 = wR z80 34 (upd (gF z80 34) ((((41 : Int32)) * v20) + v72).toNatClampNeg (vp_nar .boolean ((1 : Int32)))) → (vp_in x91 2009 ∧ (vp_in ((((41 : Int32)) * v20) + v72) 2009 ∧ (∀ z95 : St, z95 = wL z94 33 (vp_updL (gG z94 33) ((((41 : Int32)) * v20) + v72).toNatClampNeg ((gG z94 33 x91.toNatClampNeg) + ((Int32.toInt64 v78) * x71))) → K85 z95))))) → K93) → ((((gF z80 34 ((((41 : Int32)) * v20) + v72).toNatClampNeg) = 0) → K93) ∧ (¬ ((gF z80 34 ((((41 : Int32)) * v20) + v72).toNatClampNeg) = 0) → (vp_in x91 2009 ∧ (vp_in ((((41 : Int32)) * v20) + v72) 2009 ∧ (((0 ≤ (lg_cmp ((gG z80 33 x91.toNatClampNeg) + ((Int32.toInt64 v78) * x71)) (gG z80 33 ((((41 : Int32)) * v20) + v72).toNatClampNeg))) → K85 z80) ∧ (¬ (0 ≤ (lg_cmp ((gG z80 33 x91.toNatClampNeg) + ((Int32.toInt64 v78) * x71)) (gG z80 33 ((((41 : Int32)) * v20) + v72).toNatClampNeg))) → K93))))))))))))))) ∧ (r84 = 0 → K85 z80)))))))) → K79 v78 z80) → (∀ x98 : Int32, x98 = -(gF z77 30 b1.toNatClampNeg) → K79 x98 z77))))))) → K73 v72 z74) → K73 ((0 : Int32)) z22)))))))))) → K21 v20 z22) → (∀ x99 : Int32, x99 = b2 - ((1 : Int32)) → K21 x99 z18))) ∧ (¬ (x15 ≤ v16) → (vp_in ((((41 : Int32)) * b2) + v16) 2009 ∧ (∀ z100 : St, z100 = wL z18 33 (vp_updL (gG z18 33) ((((41 : Int32)) * b2) + v16).toNatClampNeg ((0 : Int64))) → (∀ K103 : Int32 → Int32 → Prop, (∀ (s101 : Int32) (s102 : Int32), (vp_in s102 2009 ∧ (∀ z104 : St, z104 = wR z100 34 (upd (gF z100 34) s102.toNatClampNeg (vp_nar .boolean s101)) → (∀ x105 : Int32, x105 = v16 + (1) → K17 x105 z104))) → K103 s101 s102) → (((v16 < b3) → K103 ((0 : Int32)) ((((41 : Int32)) * b2) + v16)) ∧ (¬ (v16 < b3) → K103 ((1 : Int32)) ((((41 : Int32)) * b2) + v16)))))))) → K17 v16 z18) → K17 ((0 : Int32)) z1)))) ∧ (r13 = 0 → (∀ z107 : St, z107 = wI z1 1 ((-2 : Int32)) → P ((-4000000000000000002 : Int64)) z107))))) → K11) → (((r10 = 0) → K11) ∧ (¬ (r10 = 0) → (vp_in b1 6 ∧ (((b3 ≤ (gF z1 27 b1.toNatClampNeg)) → K11) ∧ (¬ (b3 ≤ (gF z1 27 b1.toNatClampNeg)) → K4))))))))))))))))))
set_option maxHeartbeats 4000000 in
set_option maxRecDepth 100000 in
theorem m_X9_fill (l : Launch) (D : va_G) (t : Ty3) (a : Nat → Nat) (b1 : Int32) (b2 : Int32) (b3 : Int32) (z : St) (P : Int64 → St → Prop) (hw : wp_X9_fill b1 b2 b3 z P) : CtL l D t yX9_fill cX9_fill 13 (some .long) 3 (wM t a) (wM t a z) [.ref (a 0), .int b1, .int b2, .int b3] P := by
  refine ctL_of (by decide) (Nat.le_of_ble_eq_true rfl) ?_
  intro p e s m args below meth c A ls C hr hlk h hl
  have hl : lv_has ls 13 [(0, .ref (a 0)), (1, .int b1), (2, .int b2), (3, .int b3)] := hl
  unfold wp_X9_fill at hw
  refine lv_aload_n (pc := 0) C.1 C.2.1 dX9_fill_0 rfl (lv_at hl 0 rfl) ?_
  refine lv_iconst (v := 0) (pc := 1) C.1 C.2.1 dX9_fill_1 (by decide) ?_
  refine PM_X9_131_0 (pc := 2) C h dX9_fill_2 (fun z1 ez1 H locs h => ?_)
  have hw := hw z1 ez1
  refine lv_iload_n (pc := 5) C.1 C.2.1 dX9_fill_5 rfl (lv_at hl 2 rfl) ?_
  refine lv_i2l (pc := 6) C.1 C.2.1 dX9_fill_6 rfl ?_
  refine lv_lconst (v := 1) (pc := 7) C.1 C.2.1 dX9_fill_7 (by decide) ?_
  refine lv_ldc2 (pc := 8) C.1 C.2.1 C.2.2.2.1 (C.2.2.2.2 _ lc_X9_241) dX9_fill_8 ?_
  refine cl_si (pc := 11) (As := [.long (Int32.toInt64 b2), .long ((1 : Int64)), .long ((48 : Int64))]) (rest := []) C h (m_X9_in l D t a (Int32.toInt64 b2) ((1 : Int64)) ((48 : Int64)) z1 _ hw) mw_X9_in lm_X9_139 md_X9_in ⟨by decide, by decide⟩ ⟨Nat.zero_le _, Nat.zero_le _⟩ hl.1 rfl (Nat.le_of_ble_eq_true rfl) dX9_fill_11 (fun r3 z2 H locs hw h => ?_)
  rw [hw.1] at h
  have hw := hw.2
  have hw := hw (∀ (H : Heap) (locs : List Loc) (ls : Array Slot), wd D t A s (wM t a z1) H locs → lv_has ls 13 [(0, .ref (a 0))] → W p l e (rmd 3) s m args below meth c H locs 0 0 (QL D t A (wM t a) P below args s) (F0 m 51 ls [])) (by
      intro hw H locs ls h hl
      refine lv_aload_n (pc := 51) C.1 C.2.1 dX9_fill_51 rfl (lv_at hl 0 rfl) ?_
      refine lv_iconst (v := -1) (pc := 52) C.1 C.2.1 dX9_fill_52 (by decide) ?_
      refine PM_X9_134_0 (pc := 53) C h dX9_fill_53 (fun z5 ez5 H locs h => ?_)
      have hw := hw z5 ez5
      refine lv_ldc2 (pc := 56) C.1 C.2.1 C.2.2.2.1 (C.2.2.2.2 _ lc_X9_312) dX9_fill_56 ?_
      exact rt_l (pc := 59) C hr hlk h hw dX9_fill_59)
  refine lv_if_eq (tgt := 51) (pc := 14) C.1 C.2.1 dX9_fill_14 (by decide) (fun c6 => ?_) (fun c6 => ?_)
  · have hw := hw.1 c6
    exact hw _ _ _ h (lv_sub hl [0] rfl)
  · have hw := hw.2 c6
    refine lv_aload_n (pc := 17) C.1 C.2.1 dX9_fill_17 rfl (lv_at hl 0 rfl) ?_
    refine GM_X9_173_0 (pc := 18) C h dX9_fill_18 ?_
    refine lv_iload_n (pc := 21) C.1 C.2.1 dX9_fill_21 rfl (lv_at hl 2 rfl) ?_
    refine lv_iadd (pc := 22) C.1 C.2.1 dX9_fill_22 ?_
    refine lv_sipush (v := 168) (pc := 23) C.1 C.2.1 dX9_fill_23 (by decide) ?_
    refine lv_icmp_gt (tgt := 51) (pc := 26) C.1 C.2.1 dX9_fill_26 (by decide) (fun c7 => ?_) (fun c7 => ?_)
    · have hw := hw.1 c7
      exact hw _ _ _ h (lv_sub hl [0] rfl)
    · have hw := hw.2 c7
      refine lv_iload_n (pc := 29) C.1 C.2.1 dX9_fill_29 rfl (lv_at hl 3 rfl) ?_
      refine lv_if_lt (tgt := 51) (pc := 30) C.1 C.2.1 dX9_fill_30 (by decide) (fun c8 => ?_) (fun c8 => ?_)
      · have hw := hw.1 c8
        exact hw _ _ _ h (lv_sub hl [0] rfl)
      · have hw := hw.2 c8
        refine lv_aload_n (pc := 33) C.1 C.2.1 dX9_fill_33 rfl (lv_at hl 0 rfl) ?_
        refine lv_iload_n (pc := 34) C.1 C.2.1 dX9_fill_34 rfl (lv_at hl 1 rfl) ?_
        refine cl_vi (pc := 35) (As := [.int b1]) (rest := []) C h (m_X9_isStore l D t a b1 z1 _ hw) mw_X9_isStore lm_X9_309 md_X9_isStore rcM_0 ⟨by decide, by decide⟩ ⟨Nat.zero_le _, Nat.zero_le _⟩ hl.1 rfl (Nat.le_of_ble_eq_true rfl) dX9_fill_35 (fun r10 z9 H locs hw h => ?_)
        rw [hw.1] at h
        have hw := hw.2
        have hw := hw (∀ (H : Heap) (locs : List Loc) (ls : Array Slot), wd D t A s (wM t a z1) H locs → lv_has ls 13 [(0, .ref (a 0)), (1, .int b1), (2, .int b2), (3, .int b3)] → W p l e (rmd 3) s m args below meth c H locs 0 0 (QL D t A (wM t a) P below args s) (F0 m 60 ls [])) (by
            intro hw H locs ls h hl
            refine lv_aload_n (pc := 60) C.1 C.2.1 dX9_fill_60 rfl (lv_at hl 0 rfl) ?_
            refine lv_iload_n (pc := 61) C.1 C.2.1 dX9_fill_61 rfl (lv_at hl 1 rfl) ?_
            refine cl_vi (pc := 62) (As := [.int b1]) (rest := []) C h (m_X9_isStore l D t a b1 z1 _ hw) mw_X9_isStore lm_X9_309 md_X9_isStore rcM_0 ⟨by decide, by decide⟩ ⟨Nat.zero_le _, Nat.zero_le _⟩ hl.1 rfl (Nat.le_of_ble_eq_true rfl) dX9_fill_62 (fun r13 z12 H locs hw h => ?_)
            rw [hw.1] at h
            have hw := hw.2
            refine lv_if_ne (tgt := 78) (pc := 65) C.1 C.2.1 dX9_fill_65 (by decide) (fun c14 => ?_) (fun c14 => ?_)
            · have hw := hw.1 c14
              refine lv_aload_n (pc := 78) C.1 C.2.1 dX9_fill_78 rfl (lv_at hl 0 rfl) ?_
              refine GM_X9_100_0 (pc := 79) C h dX9_fill_79 ?_
              refine lv_iload_n (pc := 82) C.1 C.2.1 dX9_fill_82 rfl (lv_at hl 1 rfl) ?_
              refine ldM_27 (pc := 83) C h hw.1 dX9_fill_83 ?_
              have hw := hw.2
              refine lv_iconst (v := 1) (pc := 84) C.1 C.2.1 dX9_fill_84 (by decide) ?_
              refine lv_iadd (pc := 85) C.1 C.2.1 dX9_fill_85 ?_
              refine lv_topi (fun x15 ex15 => ?_)
              have hw := hw x15 ex15
              refine lv_istore (lv' := [(4, .int x15), (0, .ref (a 0)), (1, .int b1), (2, .int b2), (3, .int b3)]) (pc := 86) C.1 C.2.1 dX9_fill_86 hl (by decide) rfl (fun ls hl => ?_)
              refine lv_iconst (v := 0) (pc := 88) C.1 C.2.1 dX9_fill_88 (by decide) ?_
              have hw := hw (fun (v16 : Int32) (z18 : St) => ∀ (H : Heap) (locs : List Loc) (ls : Array Slot), wd D t A s (wM t a z18) H locs → lv_has ls 13 [(0, .ref (a 0)), (1, .int b1), (2, .int b2), (3, .int b3), (4, .int x15), (5, .int v16)] → W p l e (rmd 3) s m args below meth c H locs 0 0 (QL D t A (wM t a) P below args s) (F0 m 91 ls [])) (by
                  intro v16 z18 hw H locs ls h hl
                  refine lv_iload (pc := 91) C.1 C.2.1 dX9_fill_91 (lv_at hl 5 rfl) ?_
                  refine lv_iload (pc := 93) C.1 C.2.1 dX9_fill_93 (lv_at hl 4 rfl) ?_
                  refine lv_icmp_ge (tgt := 140) (pc := 95) C.1 C.2.1 dX9_fill_95 (by decide) (fun c19 => ?_) (fun c19 => ?_)
                  · have hw := hw.1 c19
                    refine lv_iload_n (pc := 140) C.1 C.2.1 dX9_fill_140 rfl (lv_at hl 2 rfl) ?_
                    refine lv_iconst (v := 1) (pc := 141) C.1 C.2.1 dX9_fill_141 (by decide) ?_
                    refine lv_isub (pc := 142) C.1 C.2.1 dX9_fill_142 ?_
                    have hw := hw (fun (v20 : Int32) (z22 : St) => ∀ (H : Heap) (locs : List Loc) (ls : Array Slot), wd D t A s (wM t a z22) H locs → lv_has ls 13 [(0, .ref (a 0)), (1, .int b1), (2, .int b2), (4, .int x15), (5, .int v20)] → W p l e (rmd 3) s m args below meth c H locs 0 0 (QL D t A (wM t a) P below args s) (F0 m 145 ls [])) (by
                        intro v20 z22 hw H locs ls h hl
                        refine lv_iload (pc := 145) C.1 C.2.1 dX9_fill_145 (lv_at hl 4 rfl) ?_
                        refine lv_if_lt (tgt := 401) (pc := 147) C.1 C.2.1 dX9_fill_147 (by decide) (fun c23 => ?_) (fun c23 => ?_)
                        · have hw := hw.1 c23
                          refine lv_aload_n (pc := 401) C.1 C.2.1 dX9_fill_401 rfl (lv_at hl 0 rfl) ?_
                          refine GM_X9_121_0 (pc := 402) C h dX9_fill_402 ?_
                          refine lv_aload_n (pc := 405) C.1 C.2.1 dX9_fill_405 rfl (lv_at hl 0 rfl) ?_
                          refine GM_X9_103_0 (pc := 406) C h dX9_fill_406 ?_
                          refine lv_iload_n (pc := 409) C.1 C.2.1 dX9_fill_409 rfl (lv_at hl 1 rfl) ?_
                          refine ldM_28 (pc := 410) C h hw.1 dX9_fill_410 ?_
                          have hw := hw.2
                          refine ldM_34 (pc := 411) C h hw.1 dX9_fill_411 ?_
                          have hw := hw.2
                          refine lv_if_ne (tgt := 425) (pc := 412) C.1 C.2.1 dX9_fill_412 (by decide) (fun c24 => ?_) (fun c24 => ?_)
                          · have hw := hw.1 c24
                            refine lv_aload_n (pc := 425) C.1 C.2.1 dX9_fill_425 rfl (lv_at hl 0 rfl) ?_
                            refine GM_X9_103_0 (pc := 426) C h dX9_fill_426 ?_
                            refine lv_iload_n (pc := 429) C.1 C.2.1 dX9_fill_429 rfl (lv_at hl 1 rfl) ?_
                            refine ldM_28 (pc := 430) C h hw.1 dX9_fill_430 ?_
                            have hw := hw.2
                            refine lv_topi (fun x25 ex25 => ?_)
                            have hw := hw x25 ex25
                            refine lv_istore (lv' := [(5, .int x25), (0, .ref (a 0)), (1, .int b1), (2, .int b2), (4, .int x15)]) (pc := 431) C.1 C.2.1 dX9_fill_431 hl (by decide) rfl (fun ls hl => ?_)
                            refine lv_iconst (v := 0) (pc := 433) C.1 C.2.1 dX9_fill_433 (by decide) ?_
                            have hw := hw (fun (v26 : Int32) (v27 : Int32) (z29 : St) => ∀ (H : Heap) (locs : List Loc) (ls : Array Slot), wd D t A s (wM t a z29) H locs → lv_has ls 13 [(0, .ref (a 0)), (1, .int b1), (2, .int b2), (5, .int v26), (6, .int v27)] → W p l e (rmd 3) s m args below meth c H locs 0 0 (QL D t A (wM t a) P below args s) (F0 m 436 ls [])) (by
                                intro v26 v27 z29 hw H locs ls h hl
                                refine lv_iload (pc := 436) C.1 C.2.1 dX9_fill_436 (lv_at hl 4 rfl) ?_
                                refine lv_iload_n (pc := 438) C.1 C.2.1 dX9_fill_438 rfl (lv_at hl 2 rfl) ?_
                                refine lv_icmp_ge (tgt := 662) (pc := 439) C.1 C.2.1 dX9_fill_439 (by decide) (fun c30 => ?_) (fun c30 => ?_)
                                · have hw := hw.1 c30
                                  refine lv_aload_n (pc := 662) C.1 C.2.1 dX9_fill_662 rfl (lv_at hl 0 rfl) ?_
                                  refine lv_iload_n (pc := 663) C.1 C.2.1 dX9_fill_663 rfl (lv_at hl 2 rfl) ?_
                                  refine PM_X9_323_0 (pc := 664) C h dX9_fill_664 (fun z31 ez31 H locs h => ?_)
                                  have hw := hw z31 ez31
                                  refine lv_aload_n (pc := 667) C.1 C.2.1 dX9_fill_667 rfl (lv_at hl 0 rfl) ?_
                                  refine lv_iconst (v := 0) (pc := 668) C.1 C.2.1 dX9_fill_668 (by decide) ?_
                                  refine PM_X9_134_0 (pc := 669) C h dX9_fill_669 (fun z32 ez32 H locs h => ?_)
                                  have hw := hw z32 ez32
                                  refine lv_aload_n (pc := 672) C.1 C.2.1 dX9_fill_672 rfl (lv_at hl 0 rfl) ?_
                                  refine GM_X9_118_0 (pc := 673) C h dX9_fill_673 ?_
                                  refine lv_aload_n (pc := 676) C.1 C.2.1 dX9_fill_676 rfl (lv_at hl 0 rfl) ?_
                                  refine GM_X9_103_0 (pc := 677) C h dX9_fill_677 ?_
                                  refine lv_iload_n (pc := 680) C.1 C.2.1 dX9_fill_680 rfl (lv_at hl 1 rfl) ?_
                                  refine ldM_28 (pc := 681) C h hw.1 dX9_fill_681 ?_
                                  have hw := hw.2
                                  refine ldM_33 (pc := 682) C h hw.1 dX9_fill_682 ?_
                                  have hw := hw.2
                                  exact rt_l (pc := 683) C hr hlk h hw dX9_fill_683
                                · have hw := hw.2 c30
                                  refine lv_aload_n (pc := 442) C.1 C.2.1 dX9_fill_442 rfl (lv_at hl 0 rfl) ?_
                                  refine lv_aload_n (pc := 443) C.1 C.2.1 dX9_fill_443 rfl (lv_at hl 0 rfl) ?_
                                  refine GM_X9_97_0 (pc := 444) C h dX9_fill_444 ?_
                                  refine lv_iload_n (pc := 447) C.1 C.2.1 dX9_fill_447 rfl (lv_at hl 1 rfl) ?_
                                  refine ldM_26 (pc := 448) C h hw.1 dX9_fill_448 ?_
                                  have hw := hw.2
                                  refine lv_aload_n (pc := 449) C.1 C.2.1 dX9_fill_449 rfl (lv_at hl 0 rfl) ?_
                                  refine GM_X9_173_0 (pc := 450) C h dX9_fill_450 ?_
                                  refine lv_iload (pc := 453) C.1 C.2.1 dX9_fill_453 (lv_at hl 4 rfl) ?_
                                  refine lv_iadd (pc := 455) C.1 C.2.1 dX9_fill_455 ?_
                                  refine lv_iconst (v := -1) (pc := 456) C.1 C.2.1 dX9_fill_456 (by decide) ?_
                                  refine cl_vi (pc := 457) (As := [.int (gF z29 26 b1.toNatClampNeg), .int ((gI z29 2) + v27), .int ((-1 : Int32))]) (rest := []) C h (m_X9_loadOf l D t a (gF z29 26 b1.toNatClampNeg) ((gI z29 2) + v27) ((-1 : Int32)) z29 _ hw) mw_X9_loadOf lm_X9_203 md_X9_loadOf rcM_0 ⟨by decide, by decide⟩ ⟨Nat.zero_le _, Nat.zero_le _⟩ hl.1 rfl (Nat.le_of_ble_eq_true rfl) dX9_fill_457 (fun r34 z33 H locs hw h => ?_)
                                  rw [hw.1] at h
                                  have hw := hw.2
                                  refine lv_istore (lv' := [(7, .int r34), (0, .ref (a 0)), (1, .int b1), (2, .int b2), (5, .int v26), (6, .int v27)]) (pc := 460) C.1 C.2.1 dX9_fill_460 hl (by decide) rfl (fun ls hl => ?_)
                                  refine lv_aload_n (pc := 462) C.1 C.2.1 dX9_fill_462 rfl (lv_at hl 1 rfl) ?_
                                  refine lv_aload_n (pc := 463) C.1 C.2.1 dX9_fill_463 rfl (lv_at hl 1 rfl) ?_
                                  refine GM_X9_173_0 (pc := 464) C h dX9_fill_464 ?_
                                  refine lv_iload (pc := 467) C.1 C.2.1 dX9_fill_467 (lv_at hl 5 rfl) ?_
                                  refine lv_iadd (pc := 469) C.1 C.2.1 dX9_fill_469 ?_
                                  refine lv_aload_n (pc := 470) C.1 C.2.1 dX9_fill_470 rfl (lv_at hl 1 rfl) ?_
                                  refine GM_X9_173_0 (pc := 471) C h dX9_fill_471 ?_
                                  refine cl_vi (pc := 474) (As := [.int ((gI z29 2) + v27), .int (gI z29 2)]) (rest := []) C h (m_X9_priceOf l D t a ((gI z29 2) + v27) (gI z29 2) z29 _ hw) mw_X9_priceOf lm_X9_176 md_X9_priceOf rcM_0 ⟨by decide, by decide⟩ ⟨Nat.zero_le _, Nat.zero_le _⟩ hl.1 rfl (Nat.le_of_ble_eq_true rfl) dX9_fill_474 (fun r36 z35 H locs hw h => ?_)
                                  rw [hw.1] at h
                                  have hw := hw.2
                                  refine lv_i2l (pc := 477) C.1 C.2.1 dX9_fill_477 rfl ?_
                                  refine lv_aload_n (pc := 478) C.1 C.2.1 dX9_fill_478 rfl (lv_at hl 1 rfl) ?_
                                  refine GM_X9_115_0 (pc := 479) C h dX9_fill_479 ?_
                                  refine lv_iload_n (pc := 482) C.1 C.2.1 dX9_fill_482 rfl (lv_at hl 2 rfl) ?_
                                  refine ldM_32 (pc := 483) C h hw.1 dX9_fill_483 ?_
                                  have hw := hw.2
                                  refine lv_i2l (pc := 484) C.1 C.2.1 dX9_fill_484 rfl ?_
                                  refine lv_lmul (pc := 485) C.1 C.2.1 dX9_fill_485 ?_
                                  refine lv_topl (fun x37 ex37 => ?_)
                                  have hw := hw x37 ex37
                                  refine lv_lstore (lv' := [(8, .long x37), (7, .int r34), (0, .ref (a 0)), (1, .int b1), (2, .int b2), (5, .int v26), (6, .int v27)]) (pc := 486) C.1 C.2.1 dX9_fill_486 hl (by decide) rfl (fun ls hl => ?_)
                                  refine lv_aload_n (pc := 488) C.1 C.2.1 dX9_fill_488 rfl (lv_at hl 2 rfl) ?_
                                  refine GM_X9_109_0 (pc := 489) C h dX9_fill_489 ?_
                                  refine lv_iload_n (pc := 492) C.1 C.2.1 dX9_fill_492 rfl (lv_at hl 3 rfl) ?_
                                  refine ldM_30 (pc := 493) C h hw.1 dX9_fill_493 ?_
                                  have hw := hw.2
                                  refine lv_ineg (pc := 494) C.1 C.2.1 dX9_fill_494 ?_
                                  refine lv_topi (fun x38 ex38 => ?_)
                                  have hw := hw x38 ex38
                                  refine lv_istore (lv' := [(10, .int x38), (8, .long x37), (7, .int r34), (0, .ref (a 0)), (1, .int b1), (2, .int b2), (5, .int v26), (6, .int v27)]) (pc := 495) C.1 C.2.1 dX9_fill_495 hl (by decide) rfl (fun ls hl => ?_)
                                  refine lv_iconst (v := 0) (pc := 497) C.1 C.2.1 dX9_fill_497 (by decide) ?_
                                  have hw := hw (fun (v39 : Int32) (v40 : Int32) => ∀ (H : Heap) (locs : List Loc) (ls : Array Slot), wd D t A s (wM t a z29) H locs → lv_has ls 13 [(0, .ref (a 0)), (1, .int b1), (2, .int b2), (5, .int v26), (6, .int v27), (7, .int r34), (8, .long x37), (10, .int v39), (11, .int v40)] → W p l e (rmd 3) s m args below meth c H locs 0 0 (QL D t A (wM t a) P below args s) (F0 m 500 ls [])) (by
                                      intro v39 v40 hw H locs ls h hl
                                      refine lv_iload (pc := 500) C.1 C.2.1 dX9_fill_500 (lv_at hl 8 rfl) ?_
                                      refine lv_if_ne (tgt := 626) (pc := 502) C.1 C.2.1 dX9_fill_502 (by decide) (fun c42 => ?_) (fun c42 => ?_)
                                      · have hw := hw.1 c42
                                        refine lv_aload_n (pc := 626) C.1 C.2.1 dX9_fill_626 rfl (lv_at hl 0 rfl) ?_
                                        refine GM_X9_125_0 (pc := 627) C h dX9_fill_627 ?_
                                        refine lv_iload (pc := 630) C.1 C.2.1 dX9_fill_630 (lv_at hl 4 rfl) ?_
                                        refine lv_iload (pc := 632) C.1 C.2.1 dX9_fill_632 (lv_at hl 7 rfl) ?_
                                        refine stM_35 (pc := 634) C h hw.1 dX9_fill_634 (fun z43 ez43 H locs h => ?_)
                                        have hw := hw.2 z43 ez43
                                        refine lv_aload_n (pc := 635) C.1 C.2.1 dX9_fill_635 rfl (lv_at hl 0 rfl) ?_
                                        refine lv_iload_n (pc := 636) C.1 C.2.1 dX9_fill_636 rfl (lv_at hl 1 rfl) ?_
                                        refine lv_iload (pc := 637) C.1 C.2.1 dX9_fill_637 (lv_at hl 3 rfl) ?_
                                        refine lv_iload (pc := 639) C.1 C.2.1 dX9_fill_639 (lv_at hl 7 rfl) ?_
                                        refine lv_iadd (pc := 641) C.1 C.2.1 dX9_fill_641 ?_
                                        refine cl_vi (pc := 642) (As := [.int b1, .int (v26 + v39)]) (rest := []) C h (m_X9_afterwards l D t a b1 (v26 + v39) z43 _ hw) mw_X9_afterwards lm_X9_320 md_X9_afterwards rcM_0 ⟨by decide, by decide⟩ ⟨Nat.zero_le _, Nat.zero_le _⟩ hl.1 rfl (Nat.le_of_ble_eq_true rfl) dX9_fill_642 (fun r45 z44 H locs hw h => ?_)
                                        rw [hw.1] at h
                                        have hw := hw.2
                                        refine lv_istore (lv' := [(5, .int r45), (0, .ref (a 0)), (1, .int b1), (2, .int b2), (6, .int v27), (7, .int r34), (8, .long x37), (10, .int v39), (11, .int v40)]) (pc := 645) C.1 C.2.1 dX9_fill_645 hl (by decide) rfl (fun ls hl => ?_)
                                        refine lv_aload_n (pc := 647) C.1 C.2.1 dX9_fill_647 rfl (lv_at hl 1 rfl) ?_
                                        refine GM_X9_128_0 (pc := 648) C h dX9_fill_648 ?_
                                        refine lv_iload (pc := 651) C.1 C.2.1 dX9_fill_651 (lv_at hl 4 rfl) ?_
                                        refine lv_iload (pc := 653) C.1 C.2.1 dX9_fill_653 (lv_at hl 0 rfl) ?_
                                        refine stM_36 (pc := 655) C h hw.1 dX9_fill_655 (fun z46 ez46 H locs h => ?_)
                                        have hw := hw.2 z46 ez46
                                        obtain ⟨x47, ex47⟩ : ∃ y : Int32, y = v27 + (1) := ⟨_, rfl⟩
                                        have hw := hw x47 ex47
                                        refine lv_iinc (v := x47) (lv' := [(6, .int x47), (5, .int r45), (0, .ref (a 0)), (1, .int b1), (2, .int b2), (7, .int r34), (8, .long x37), (10, .int v39), (11, .int v40)]) (pc := 656) C.1 C.2.1 dX9_fill_656 hl (k := 4) rfl (by rw [ex47]; rfl) (by decide) rfl (fun ls hl => ?_)
                                        refine lv_goto (tgt := 436) (pc := 659) C.1 C.2.1 dX9_fill_659 (by decide) ?_
                                        exact hw _ _ _ h (lv_sub hl [2, 3, 4, 1, 0] rfl)
                                      · have hw := hw.2 c42
                                        refine lv_aload_n (pc := 505) C.1 C.2.1 dX9_fill_505 rfl (lv_at hl 0 rfl) ?_
                                        refine lv_iload_n (pc := 506) C.1 C.2.1 dX9_fill_506 rfl (lv_at hl 1 rfl) ?_
                                        refine lv_iload (pc := 507) C.1 C.2.1 dX9_fill_507 (lv_at hl 3 rfl) ?_
                                        refine lv_iload (pc := 509) C.1 C.2.1 dX9_fill_509 (lv_at hl 7 rfl) ?_
                                        refine lv_aload_n (pc := 511) C.1 C.2.1 dX9_fill_511 rfl (lv_at hl 0 rfl) ?_
                                        refine GM_X9_173_0 (pc := 512) C h dX9_fill_512 ?_
                                        refine lv_iload (pc := 515) C.1 C.2.1 dX9_fill_515 (lv_at hl 4 rfl) ?_
                                        refine lv_iadd (pc := 517) C.1 C.2.1 dX9_fill_517 ?_
                                        refine lv_iload (pc := 518) C.1 C.2.1 dX9_fill_518 (lv_at hl 5 rfl) ?_
                                        refine cl_vi (pc := 520) (As := [.int b1, .int v26, .int v39, .int ((gI z29 2) + v27), .int r34]) (rest := []) C h (m_X9_goes l D t a b1 v26 v39 ((gI z29 2) + v27) r34 z29 _ hw) mw_X9_goes lm_X9_316 md_X9_goes rcM_0 ⟨by decide, by decide⟩ ⟨Nat.zero_le _, Nat.zero_le _⟩ hl.1 rfl (Nat.le_of_ble_eq_true rfl) dX9_fill_520 (fun r49 z48 H locs hw h => ?_)
                                        rw [hw.1] at h
                                        have hw := hw.2
                                        refine lv_istore (lv' := [(11, .int r49), (0, .ref (a 0)), (1, .int b1), (2, .int b2), (5, .int v26), (6, .int v27), (7, .int r34), (8, .long x37), (10, .int v39)]) (pc := 523) C.1 C.2.1 dX9_fill_523 hl (by decide) rfl (fun ls hl => ?_)
                                        refine lv_iload (pc := 525) C.1 C.2.1 dX9_fill_525 (lv_at hl 0 rfl) ?_
                                        have hw := hw (fun (s50 : Int32) => ∀ (H : Heap) (locs : List Loc) (ls : Array Slot), wd D t A s (wM t a z29) H locs → lv_has ls 13 [(0, .ref (a 0)), (1, .int b1), (2, .int b2), (5, .int v26), (6, .int v27), (7, .int r34), (8, .long x37), (10, .int v39), (11, .int r49)] → W p l e (rmd 3) s m args below meth c H locs 0 0 (QL D t A (wM t a) P below args s) (F0 m 553 ls [.int s50])) (by
                                            intro s50 hw H locs ls h hl
                                            refine lv_istore (lv' := [(12, .int s50), (0, .ref (a 0)), (1, .int b1), (2, .int b2), (5, .int v26), (6, .int v27), (7, .int r34), (8, .long x37), (10, .int v39), (11, .int r49)]) (pc := 553) C.1 C.2.1 dX9_fill_553 hl (by decide) rfl (fun ls hl => ?_)
                                            refine lv_iload (pc := 555) C.1 C.2.1 dX9_fill_555 (lv_at hl 9 rfl) ?_
                                            have hw := hw (fun (s52 : Int32) => ∀ (H : Heap) (locs : List Loc) (ls : Array Slot), wd D t A s (wM t a z29) H locs → lv_has ls 13 [(0, .ref (a 0)), (1, .int b1), (2, .int b2), (5, .int v26), (6, .int v27), (7, .int r34), (8, .long x37), (10, .int v39)] → W p l e (rmd 3) s m args below meth c H locs 0 0 (QL D t A (wM t a) P below args s) (F0 m 606 ls [.int s52])) (by
                                                intro s52 hw H locs ls h hl
                                                refine lv_istore (lv' := [(11, .int s52), (0, .ref (a 0)), (1, .int b1), (2, .int b2), (5, .int v26), (6, .int v27), (7, .int r34), (8, .long x37), (10, .int v39)]) (pc := 606) C.1 C.2.1 dX9_fill_606 hl (by decide) rfl (fun ls hl => ?_)
                                                refine lv_iload (pc := 608) C.1 C.2.1 dX9_fill_608 (lv_at hl 8 rfl) ?_
                                                refine lv_iload (pc := 610) C.1 C.2.1 dX9_fill_610 (lv_at hl 0 rfl) ?_
                                                have hw := hw (fun (s54 : Int32) (s55 : Int32) => ∀ (H : Heap) (locs : List Loc) (ls : Array Slot), wd D t A s (wM t a z29) H locs → lv_has ls 13 [(0, .ref (a 0)), (1, .int b1), (2, .int b2), (5, .int v26), (6, .int v27), (7, .int r34), (8, .long x37), (11, .int s52)] → W p l e (rmd 3) s m args below meth c H locs 0 0 (QL D t A (wM t a) P below args s) (F0 m 620 ls [.int s54, .int s55])) (by
                                                    intro s54 s55 hw H locs ls h hl
                                                    refine lv_iadd (pc := 620) C.1 C.2.1 dX9_fill_620 ?_
                                                    refine lv_topi (fun x57 ex57 => ?_)
                                                    have hw := hw x57 ex57
                                                    refine lv_istore (lv' := [(10, .int x57), (0, .ref (a 0)), (1, .int b1), (2, .int b2), (5, .int v26), (6, .int v27), (7, .int r34), (8, .long x37), (11, .int s52)]) (pc := 621) C.1 C.2.1 dX9_fill_621 hl (by decide) rfl (fun ls hl => ?_)
                                                    refine lv_goto (tgt := 500) (pc := 623) C.1 C.2.1 dX9_fill_623 (by decide) ?_
                                                    exact hw _ _ _ h (lv_sub hl [1, 2, 3, 4, 5, 6, 7, 0, 8] rfl))
                                                refine lv_if_eq (tgt := 619) (pc := 612) C.1 C.2.1 dX9_fill_612 (by decide) (fun c58 => ?_) (fun c58 => ?_)
                                                · have hw := hw.1 c58
                                                  refine lv_iconst (v := 1) (pc := 619) C.1 C.2.1 dX9_fill_619 (by decide) ?_
                                                  exact hw _ _ _ h (lv_sub hl [1, 2, 3, 4, 5, 6, 7, 0] rfl)
                                                · have hw := hw.2 c58
                                                  refine lv_iconst (v := 0) (pc := 615) C.1 C.2.1 dX9_fill_615 (by decide) ?_
                                                  refine lv_goto (tgt := 620) (pc := 616) C.1 C.2.1 dX9_fill_616 (by decide) ?_
                                                  exact hw _ _ _ h (lv_sub hl [1, 2, 3, 4, 5, 6, 7, 0] rfl))
                                            have hw := hw (∀ (H : Heap) (locs : List Loc) (ls : Array Slot), wd D t A s (wM t a z29) H locs → lv_has ls 13 [(0, .ref (a 0)), (1, .int b1), (2, .int b2), (5, .int v26), (6, .int v27), (7, .int r34), (8, .long x37), (10, .int v39)] → W p l e (rmd 3) s m args below meth c H locs 0 0 (QL D t A (wM t a) P below args s) (F0 m 605 ls [])) (by
                                                intro hw H locs ls h hl
                                                refine lv_iconst (v := 0) (pc := 605) C.1 C.2.1 dX9_fill_605 (by decide) ?_
                                                exact hw _ _ _ h (lv_sub hl [0, 1, 2, 3, 4, 5, 6, 7] rfl))
                                            refine lv_if_eq (tgt := 605) (pc := 557) C.1 C.2.1 dX9_fill_557 (by decide) (fun c60 => ?_) (fun c60 => ?_)
                                            · have hw := hw.1 c60
                                              exact hw _ _ _ h (lv_sub hl [1, 2, 3, 4, 5, 6, 7, 8] rfl)
                                            · have hw := hw.2 c60
                                              refine lv_aload_n (pc := 560) C.1 C.2.1 dX9_fill_560 rfl (lv_at hl 1 rfl) ?_
                                              refine GM_X9_121_0 (pc := 561) C h dX9_fill_561 ?_
                                              refine lv_iload (pc := 564) C.1 C.2.1 dX9_fill_564 (lv_at hl 0 rfl) ?_
                                              refine ldM_34 (pc := 566) C h hw.1 dX9_fill_566 ?_
                                              have hw := hw.2
                                              refine lv_if_eq (tgt := 605) (pc := 567) C.1 C.2.1 dX9_fill_567 (by decide) (fun c61 => ?_) (fun c61 => ?_)
                                              · have hw := hw.1 c61
                                                exact hw _ _ _ h (lv_sub hl [1, 2, 3, 4, 5, 6, 7, 8] rfl)
                                              · have hw := hw.2 c61
                                                refine lv_aload_n (pc := 570) C.1 C.2.1 dX9_fill_570 rfl (lv_at hl 1 rfl) ?_
                                                refine GM_X9_118_0 (pc := 571) C h dX9_fill_571 ?_
                                                refine lv_iload (pc := 574) C.1 C.2.1 dX9_fill_574 (lv_at hl 0 rfl) ?_
                                                refine ldM_33 (pc := 576) C h hw.1 dX9_fill_576 ?_
                                                have hw := hw.2
                                                refine lv_iload (pc := 577) C.1 C.2.1 dX9_fill_577 (lv_at hl 8 rfl) ?_
                                                refine lv_i2l (pc := 579) C.1 C.2.1 dX9_fill_579 rfl ?_
                                                refine lv_lload (pc := 580) C.1 C.2.1 dX9_fill_580 (lv_at hl 7 rfl) ?_
                                                refine lv_lmul (pc := 582) C.1 C.2.1 dX9_fill_582 ?_
                                                refine lv_ladd (pc := 583) C.1 C.2.1 dX9_fill_583 ?_
                                                refine lv_aload_n (pc := 584) C.1 C.2.1 dX9_fill_584 rfl (lv_at hl 1 rfl) ?_
                                                refine GM_X9_118_0 (pc := 585) C h dX9_fill_585 ?_
                                                refine lv_bipush (v := 41) (pc := 588) C.1 C.2.1 dX9_fill_588 (by decide) ?_
                                                refine lv_iload (pc := 590) C.1 C.2.1 dX9_fill_590 (lv_at hl 5 rfl) ?_
                                                refine lv_imul (pc := 592) C.1 C.2.1 dX9_fill_592 ?_
                                                refine lv_iload (pc := 593) C.1 C.2.1 dX9_fill_593 (lv_at hl 4 rfl) ?_
                                                refine lv_iadd (pc := 595) C.1 C.2.1 dX9_fill_595 ?_
                                                refine ldM_33 (pc := 596) C h hw.1 dX9_fill_596 ?_
                                                have hw := hw.2
                                                refine W.lcmp (pc := 597) C.1 C.2.1 dX9_fill_597 ?_
                                                refine lv_if_ne (tgt := 605) (pc := 598) C.1 C.2.1 dX9_fill_598 (by decide) (fun c62 => ?_) (fun c62 => ?_)
                                                · have hw := hw.1 c62
                                                  exact hw _ _ _ h (lv_sub hl [1, 2, 3, 4, 5, 6, 7, 8] rfl)
                                                · have hw := hw.2 c62
                                                  refine lv_iconst (v := 1) (pc := 601) C.1 C.2.1 dX9_fill_601 (by decide) ?_
                                                  refine lv_goto (tgt := 606) (pc := 602) C.1 C.2.1 dX9_fill_602 (by decide) ?_
                                                  exact hw _ _ _ h (lv_sub hl [1, 2, 3, 4, 5, 6, 7, 8] rfl))
                                        refine lv_if_eq (tgt := 552) (pc := 527) C.1 C.2.1 dX9_fill_527 (by decide) (fun c63 => ?_) (fun c63 => ?_)
                                        · have hw := hw.1 c63
                                          refine lv_iconst (v := 0) (pc := 552) C.1 C.2.1 dX9_fill_552 (by decide) ?_
                                          exact hw _ _ _ h (lv_sub hl [1, 2, 3, 4, 5, 6, 7, 8, 0] rfl)
                                        · have hw := hw.2 c63
                                          refine lv_bipush (v := 41) (pc := 530) C.1 C.2.1 dX9_fill_530 (by decide) ?_
                                          refine lv_iload (pc := 532) C.1 C.2.1 dX9_fill_532 (lv_at hl 5 rfl) ?_
                                          refine lv_imul (pc := 534) C.1 C.2.1 dX9_fill_534 ?_
                                          refine lv_bipush (v := 41) (pc := 535) C.1 C.2.1 dX9_fill_535 (by decide) ?_
                                          refine lv_iadd (pc := 537) C.1 C.2.1 dX9_fill_537 ?_
                                          refine lv_aload_n (pc := 538) C.1 C.2.1 dX9_fill_538 rfl (lv_at hl 1 rfl) ?_
                                          refine lv_iload_n (pc := 539) C.1 C.2.1 dX9_fill_539 rfl (lv_at hl 2 rfl) ?_
                                          refine lv_iload (pc := 540) C.1 C.2.1 dX9_fill_540 (lv_at hl 4 rfl) ?_
                                          refine lv_iload (pc := 542) C.1 C.2.1 dX9_fill_542 (lv_at hl 8 rfl) ?_
                                          refine lv_iadd (pc := 544) C.1 C.2.1 dX9_fill_544 ?_
                                          refine cl_vi (pc := 545) (As := [.int b1, .int (v26 + v39)]) (rest := [.int ((((41 : Int32)) * v27) + ((41 : Int32)))]) C h (m_X9_afterwards l D t a b1 (v26 + v39) z29 _ hw) mw_X9_afterwards lm_X9_320 md_X9_afterwards rcM_0 ⟨by decide, by decide⟩ ⟨Nat.zero_le _, Nat.zero_le _⟩ hl.1 rfl (Nat.le_of_ble_eq_true rfl) dX9_fill_545 (fun r65 z64 H locs hw h => ?_)
                                          rw [hw.1] at h
                                          have hw := hw.2
                                          refine lv_iadd (pc := 548) C.1 C.2.1 dX9_fill_548 ?_
                                          refine lv_goto (tgt := 553) (pc := 549) C.1 C.2.1 dX9_fill_549 (by decide) ?_
                                          exact hw _ _ _ h (lv_sub hl [1, 2, 3, 4, 5, 6, 7, 8, 0] rfl))
                                  refine lv_istore (lv' := [(11, .int ((0 : Int32))), (10, .int x38), (8, .long x37), (7, .int r34), (0, .ref (a 0)), (1, .int b1), (2, .int b2), (5, .int v26), (6, .int v27)]) (pc := 498) C.1 C.2.1 dX9_fill_498 hl (by decide) rfl (fun ls hl => ?_)
                                  exact hw _ _ _ h (lv_sub hl [4, 5, 6, 7, 8, 3, 2, 1, 0] rfl))
                            refine lv_istore (lv' := [(6, .int ((0 : Int32))), (5, .int x25), (0, .ref (a 0)), (1, .int b1), (2, .int b2), (4, .int x15)]) (pc := 434) C.1 C.2.1 dX9_fill_434 hl (by decide) rfl (fun ls hl => ?_)
                            exact hw _ _ _ h (lv_sub hl [2, 3, 4, 1, 0] rfl)
                          · have hw := hw.2 c24
                            refine lv_aload_n (pc := 415) C.1 C.2.1 dX9_fill_415 rfl (lv_at hl 0 rfl) ?_
                            refine lv_bipush (v := -6) (pc := 416) C.1 C.2.1 dX9_fill_416 (by decide) ?_
                            refine PM_X9_134_0 (pc := 418) C h dX9_fill_418 (fun z66 ez66 H locs h => ?_)
                            have hw := hw z66 ez66
                            refine lv_ldc2 (pc := 421) C.1 C.2.1 C.2.2.2.1 (C.2.2.2.2 _ lc_X9_231) dX9_fill_421 ?_
                            exact rt_l (pc := 424) C hr hlk h hw dX9_fill_424
                        · have hw := hw.2 c23
                          refine lv_aload_n (pc := 150) C.1 C.2.1 dX9_fill_150 rfl (lv_at hl 0 rfl) ?_
                          refine lv_aload_n (pc := 151) C.1 C.2.1 dX9_fill_151 rfl (lv_at hl 0 rfl) ?_
                          refine GM_X9_97_0 (pc := 152) C h dX9_fill_152 ?_
                          refine lv_iload_n (pc := 155) C.1 C.2.1 dX9_fill_155 rfl (lv_at hl 1 rfl) ?_
                          refine ldM_26 (pc := 156) C h hw.1 dX9_fill_156 ?_
                          have hw := hw.2
                          refine lv_aload_n (pc := 157) C.1 C.2.1 dX9_fill_157 rfl (lv_at hl 0 rfl) ?_
                          refine GM_X9_173_0 (pc := 158) C h dX9_fill_158 ?_
                          refine lv_iload (pc := 161) C.1 C.2.1 dX9_fill_161 (lv_at hl 4 rfl) ?_
                          refine lv_iadd (pc := 163) C.1 C.2.1 dX9_fill_163 ?_
                          refine lv_iconst (v := -1) (pc := 164) C.1 C.2.1 dX9_fill_164 (by decide) ?_
                          refine cl_vi (pc := 165) (As := [.int (gF z22 26 b1.toNatClampNeg), .int ((gI z22 2) + v20), .int ((-1 : Int32))]) (rest := []) C h (m_X9_loadOf l D t a (gF z22 26 b1.toNatClampNeg) ((gI z22 2) + v20) ((-1 : Int32)) z22 _ hw) mw_X9_loadOf lm_X9_203 md_X9_loadOf rcM_0 ⟨by decide, by decide⟩ ⟨Nat.zero_le _, Nat.zero_le _⟩ hl.1 rfl (Nat.le_of_ble_eq_true rfl) dX9_fill_165 (fun r68 z67 H locs hw h => ?_)
                          rw [hw.1] at h
                          have hw := hw.2
                          refine lv_istore (lv' := [(6, .int r68), (0, .ref (a 0)), (1, .int b1), (2, .int b2), (4, .int x15), (5, .int v20)]) (pc := 168) C.1 C.2.1 dX9_fill_168 hl (by decide) rfl (fun ls hl => ?_)
                          refine lv_aload_n (pc := 170) C.1 C.2.1 dX9_fill_170 rfl (lv_at hl 1 rfl) ?_
                          refine lv_aload_n (pc := 171) C.1 C.2.1 dX9_fill_171 rfl (lv_at hl 1 rfl) ?_
                          refine GM_X9_173_0 (pc := 172) C h dX9_fill_172 ?_
                          refine lv_iload (pc := 175) C.1 C.2.1 dX9_fill_175 (lv_at hl 5 rfl) ?_
                          refine lv_iadd (pc := 177) C.1 C.2.1 dX9_fill_177 ?_
                          refine lv_aload_n (pc := 178) C.1 C.2.1 dX9_fill_178 rfl (lv_at hl 1 rfl) ?_
                          refine GM_X9_173_0 (pc := 179) C h dX9_fill_179 ?_
                          refine cl_vi (pc := 182) (As := [.int ((gI z22 2) + v20), .int (gI z22 2)]) (rest := []) C h (m_X9_priceOf l D t a ((gI z22 2) + v20) (gI z22 2) z22 _ hw) mw_X9_priceOf lm_X9_176 md_X9_priceOf rcM_0 ⟨by decide, by decide⟩ ⟨Nat.zero_le _, Nat.zero_le _⟩ hl.1 rfl (Nat.le_of_ble_eq_true rfl) dX9_fill_182 (fun r70 z69 H locs hw h => ?_)
                          rw [hw.1] at h
                          have hw := hw.2
                          refine lv_i2l (pc := 185) C.1 C.2.1 dX9_fill_185 rfl ?_
                          refine lv_aload_n (pc := 186) C.1 C.2.1 dX9_fill_186 rfl (lv_at hl 1 rfl) ?_
                          refine GM_X9_115_0 (pc := 187) C h dX9_fill_187 ?_
                          refine lv_iload_n (pc := 190) C.1 C.2.1 dX9_fill_190 rfl (lv_at hl 2 rfl) ?_
                          refine ldM_32 (pc := 191) C h hw.1 dX9_fill_191 ?_
                          have hw := hw.2
                          refine lv_i2l (pc := 192) C.1 C.2.1 dX9_fill_192 rfl ?_
                          refine lv_lmul (pc := 193) C.1 C.2.1 dX9_fill_193 ?_
                          refine lv_topl (fun x71 ex71 => ?_)
                          have hw := hw x71 ex71
                          refine lv_lstore (lv' := [(7, .long x71), (6, .int r68), (0, .ref (a 0)), (1, .int b1), (2, .int b2), (4, .int x15), (5, .int v20)]) (pc := 194) C.1 C.2.1 dX9_fill_194 hl (by decide) rfl (fun ls hl => ?_)
                          refine lv_iconst (v := 0) (pc := 196) C.1 C.2.1 dX9_fill_196 (by decide) ?_
                          have hw := hw (fun (v72 : Int32) (z74 : St) => ∀ (H : Heap) (locs : List Loc) (ls : Array Slot), wd D t A s (wM t a z74) H locs → lv_has ls 13 [(0, .ref (a 0)), (1, .int b1), (2, .int b2), (4, .int x15), (5, .int v20), (6, .int r68), (7, .long x71), (9, .int v72)] → W p l e (rmd 3) s m args below meth c H locs 0 0 (QL D t A (wM t a) P below args s) (F0 m 199 ls [])) (by
                              intro v72 z74 hw H locs ls h hl
                              refine lv_iload (pc := 199) C.1 C.2.1 dX9_fill_199 (lv_at hl 7 rfl) ?_
                              refine lv_iload (pc := 201) C.1 C.2.1 dX9_fill_201 (lv_at hl 3 rfl) ?_
                              refine lv_icmp_ge (tgt := 395) (pc := 203) C.1 C.2.1 dX9_fill_203 (by decide) (fun c75 => ?_) (fun c75 => ?_)
                              · have hw := hw.1 c75
                                obtain ⟨x76, ex76⟩ : ∃ y : Int32, y = v20 + (-1) := ⟨_, rfl⟩
                                have hw := hw x76 ex76
                                refine lv_iinc (v := x76) (lv' := [(5, .int x76), (0, .ref (a 0)), (1, .int b1), (2, .int b2), (4, .int x15), (6, .int r68), (7, .long x71), (9, .int v72)]) (pc := 395) C.1 C.2.1 dX9_fill_395 hl (k := 4) rfl (by rw [ex76]; rfl) (by decide) rfl (fun ls hl => ?_)
                                refine lv_goto (tgt := 145) (pc := 398) C.1 C.2.1 dX9_fill_398 (by decide) ?_
                                exact hw _ _ _ h (lv_sub hl [1, 2, 3, 4, 0] rfl)
                              · have hw := hw.2 c75
                                refine lv_aload_n (pc := 206) C.1 C.2.1 dX9_fill_206 rfl (lv_at hl 0 rfl) ?_
                                refine GM_X9_121_0 (pc := 207) C h dX9_fill_207 ?_
                                refine lv_bipush (v := 41) (pc := 210) C.1 C.2.1 dX9_fill_210 (by decide) ?_
                                refine lv_iload (pc := 212) C.1 C.2.1 dX9_fill_212 (lv_at hl 4 rfl) ?_
                                refine lv_imul (pc := 214) C.1 C.2.1 dX9_fill_214 ?_
                                refine lv_iload (pc := 215) C.1 C.2.1 dX9_fill_215 (lv_at hl 7 rfl) ?_
                                refine lv_iadd (pc := 217) C.1 C.2.1 dX9_fill_217 ?_
                                refine lv_iconst (v := 0) (pc := 218) C.1 C.2.1 dX9_fill_218 (by decide) ?_
                                refine stM_34 (pc := 219) C h hw.1 dX9_fill_219 (fun z77 ez77 H locs h => ?_)
                                have hw := hw.2 z77 ez77
                                refine lv_aload_n (pc := 220) C.1 C.2.1 dX9_fill_220 rfl (lv_at hl 0 rfl) ?_
                                refine GM_X9_109_0 (pc := 221) C h dX9_fill_221 ?_
                                refine lv_iload_n (pc := 224) C.1 C.2.1 dX9_fill_224 rfl (lv_at hl 1 rfl) ?_
                                refine ldM_30 (pc := 225) C h hw.1 dX9_fill_225 ?_
                                have hw := hw.2
                                refine lv_ineg (pc := 226) C.1 C.2.1 dX9_fill_226 ?_
                                have hw := hw (fun (v78 : Int32) (z80 : St) => ∀ (H : Heap) (locs : List Loc) (ls : Array Slot), wd D t A s (wM t a z80) H locs → lv_has ls 13 [(0, .ref (a 0)), (1, .int b1), (2, .int b2), (4, .int x15), (5, .int v20), (6, .int r68), (7, .long x71), (9, .int v72), (10, .int v78)] → W p l e (rmd 3) s m args below meth c H locs 0 0 (QL D t A (wM t a) P below args s) (F0 m 229 ls [])) (by
                                    intro v78 z80 hw H locs ls h hl
                                    refine lv_iload (pc := 229) C.1 C.2.1 dX9_fill_229 (lv_at hl 8 rfl) ?_
                                    refine lv_aload_n (pc := 231) C.1 C.2.1 dX9_fill_231 rfl (lv_at hl 0 rfl) ?_
                                    refine GM_X9_106_0 (pc := 232) C h dX9_fill_232 ?_
                                    refine lv_iload_n (pc := 235) C.1 C.2.1 dX9_fill_235 rfl (lv_at hl 1 rfl) ?_
                                    refine ldM_29 (pc := 236) C h hw.1 dX9_fill_236 ?_
                                    have hw := hw.2
                                    refine lv_icmp_gt (tgt := 389) (pc := 237) C.1 C.2.1 dX9_fill_237 (by decide) (fun c81 => ?_) (fun c81 => ?_)
                                    · have hw := hw.1 c81
                                      obtain ⟨x82, ex82⟩ : ∃ y : Int32, y = v72 + (1) := ⟨_, rfl⟩
                                      have hw := hw x82 ex82
                                      refine lv_iinc (v := x82) (lv' := [(9, .int x82), (0, .ref (a 0)), (1, .int b1), (2, .int b2), (4, .int x15), (5, .int v20), (6, .int r68), (7, .long x71), (10, .int v78)]) (pc := 389) C.1 C.2.1 dX9_fill_389 hl (k := 7) rfl (by rw [ex82]; rfl) (by decide) rfl (fun ls hl => ?_)
                                      refine lv_goto (tgt := 199) (pc := 392) C.1 C.2.1 dX9_fill_392 (by decide) ?_
                                      exact hw _ _ _ h (lv_sub hl [1, 2, 3, 4, 5, 6, 7, 0] rfl)
                                    · have hw := hw.2 c81
                                      refine lv_aload_n (pc := 240) C.1 C.2.1 dX9_fill_240 rfl (lv_at hl 0 rfl) ?_
                                      refine lv_iload_n (pc := 241) C.1 C.2.1 dX9_fill_241 rfl (lv_at hl 1 rfl) ?_
                                      refine lv_iload (pc := 242) C.1 C.2.1 dX9_fill_242 (lv_at hl 7 rfl) ?_
                                      refine lv_iload (pc := 244) C.1 C.2.1 dX9_fill_244 (lv_at hl 8 rfl) ?_
                                      refine lv_aload_n (pc := 246) C.1 C.2.1 dX9_fill_246 rfl (lv_at hl 0 rfl) ?_
                                      refine GM_X9_173_0 (pc := 247) C h dX9_fill_247 ?_
                                      refine lv_iload (pc := 250) C.1 C.2.1 dX9_fill_250 (lv_at hl 4 rfl) ?_
                                      refine lv_iadd (pc := 252) C.1 C.2.1 dX9_fill_252 ?_
                                      refine lv_iload (pc := 253) C.1 C.2.1 dX9_fill_253 (lv_at hl 5 rfl) ?_
                                      refine cl_vi (pc := 255) (As := [.int b1, .int v72, .int v78, .int ((gI z80 2) + v20), .int r68]) (rest := []) C h (m_X9_goes l D t a b1 v72 v78 ((gI z80 2) + v20) r68 z80 _ hw) mw_X9_goes lm_X9_316 md_X9_goes rcM_0 ⟨by decide, by decide⟩ ⟨Nat.zero_le _, Nat.zero_le _⟩ hl.1 rfl (Nat.le_of_ble_eq_true rfl) dX9_fill_255 (fun r84 z83 H locs hw h => ?_)
                                      rw [hw.1] at h
                                      have hw := hw.2
                                      have hw := hw (fun (z86 : St) => ∀ (H : Heap) (locs : List Loc) (ls : Array Slot), wd D t A s (wM t a z86) H locs → lv_has ls 13 [(0, .ref (a 0)), (1, .int b1), (2, .int b2), (4, .int x15), (5, .int v20), (6, .int r68), (7, .long x71), (9, .int v72), (10, .int v78)] → W p l e (rmd 3) s m args below meth c H locs 0 0 (QL D t A (wM t a) P below args s) (F0 m 383 ls [])) (by
                                          intro z86 hw H locs ls h hl
                                          obtain ⟨x87, ex87⟩ : ∃ y : Int32, y = v78 + (1) := ⟨_, rfl⟩
                                          have hw := hw x87 ex87
                                          refine lv_iinc (v := x87) (lv' := [(10, .int x87), (0, .ref (a 0)), (1, .int b1), (2, .int b2), (4, .int x15), (5, .int v20), (6, .int r68), (7, .long x71), (9, .int v72)]) (pc := 383) C.1 C.2.1 dX9_fill_383 hl (k := 8) rfl (by rw [ex87]; rfl) (by decide) rfl (fun ls hl => ?_)
                                          refine lv_goto (tgt := 229) (pc := 386) C.1 C.2.1 dX9_fill_386 (by decide) ?_
                                          exact hw _ _ _ h (lv_sub hl [1, 2, 3, 4, 5, 6, 7, 8, 0] rfl))
                                      refine lv_if_ne (tgt := 264) (pc := 258) C.1 C.2.1 dX9_fill_258 (by decide) (fun c88 => ?_) (fun c88 => ?_)
                                      · have hw := hw.1 c88
                                        refine lv_bipush (v := 41) (pc := 264) C.1 C.2.1 dX9_fill_264 (by decide) ?_
                                        refine lv_iload (pc := 266) C.1 C.2.1 dX9_fill_266 (lv_at hl 4 rfl) ?_
                                        refine lv_imul (pc := 268) C.1 C.2.1 dX9_fill_268 ?_
                                        refine lv_bipush (v := 41) (pc := 269) C.1 C.2.1 dX9_fill_269 (by decide) ?_
                                        refine lv_iadd (pc := 271) C.1 C.2.1 dX9_fill_271 ?_
                                        refine lv_aload_n (pc := 272) C.1 C.2.1 dX9_fill_272 rfl (lv_at hl 0 rfl) ?_
                                        refine lv_iload_n (pc := 273) C.1 C.2.1 dX9_fill_273 rfl (lv_at hl 1 rfl) ?_
                                        refine lv_iload (pc := 274) C.1 C.2.1 dX9_fill_274 (lv_at hl 7 rfl) ?_
                                        refine lv_iload (pc := 276) C.1 C.2.1 dX9_fill_276 (lv_at hl 8 rfl) ?_
                                        refine lv_iadd (pc := 278) C.1 C.2.1 dX9_fill_278 ?_
                                        refine cl_vi (pc := 279) (As := [.int b1, .int (v72 + v78)]) (rest := [.int ((((41 : Int32)) * v20) + ((41 : Int32)))]) C h (m_X9_afterwards l D t a b1 (v72 + v78) z80 _ hw) mw_X9_afterwards lm_X9_320 md_X9_afterwards rcM_0 ⟨by decide, by decide⟩ ⟨Nat.zero_le _, Nat.zero_le _⟩ hl.1 rfl (Nat.le_of_ble_eq_true rfl) dX9_fill_279 (fun r90 z89 H locs hw h => ?_)
                                        rw [hw.1] at h
                                        have hw := hw.2
                                        refine lv_iadd (pc := 282) C.1 C.2.1 dX9_fill_282 ?_
                                        refine lv_topi (fun x91 ex91 => ?_)
                                        have hw := hw x91 ex91
                                        refine lv_istore (lv' := [(11, .int x91), (0, .ref (a 0)), (1, .int b1), (2, .int b2), (4, .int x15), (5, .int v20), (6, .int r68), (7, .long x71), (9, .int v72), (10, .int v78)]) (pc := 283) C.1 C.2.1 dX9_fill_283 hl (by decide) rfl (fun ls hl => ?_)
                                        refine lv_aload_n (pc := 285) C.1 C.2.1 dX9_fill_285 rfl (lv_at hl 1 rfl) ?_
                                        refine GM_X9_121_0 (pc := 286) C h dX9_fill_286 ?_
                                        refine lv_iload (pc := 289) C.1 C.2.1 dX9_fill_289 (lv_at hl 0 rfl) ?_
                                        refine ldM_34 (pc := 291) C h hw.1 dX9_fill_291 ?_
                                        have hw := hw.2
                                        refine lv_if_eq (tgt := 383) (pc := 292) C.1 C.2.1 dX9_fill_292 (by decide) (fun c92 => ?_) (fun c92 => ?_)
                                        · have hw := hw.1 c92
                                          exact hw _ _ _ h (lv_sub hl [1, 2, 3, 4, 5, 6, 7, 8, 9] rfl)
                                        · have hw := hw.2 c92
                                          refine lv_aload_n (pc := 295) C.1 C.2.1 dX9_fill_295 rfl (lv_at hl 1 rfl) ?_
                                          refine GM_X9_121_0 (pc := 296) C h dX9_fill_296 ?_
                                          refine lv_bipush (v := 41) (pc := 299) C.1 C.2.1 dX9_fill_299 (by decide) ?_
                                          refine lv_iload (pc := 301) C.1 C.2.1 dX9_fill_301 (lv_at hl 5 rfl) ?_
                                          refine lv_imul (pc := 303) C.1 C.2.1 dX9_fill_303 ?_
                                          refine lv_iload (pc := 304) C.1 C.2.1 dX9_fill_304 (lv_at hl 8 rfl) ?_
                                          refine lv_iadd (pc := 306) C.1 C.2.1 dX9_fill_306 ?_
                                          refine ldM_34 (pc := 307) C h hw.1 dX9_fill_307 ?_
                                          have hw := hw.2
                                          have hw := hw (∀ (H : Heap) (locs : List Loc) (ls : Array Slot), wd D t A s (wM t a z80) H locs → lv_has ls 13 [(0, .ref (a 0)), (1, .int b1), (2, .int b2), (4, .int x15), (5, .int v20), (6, .int r68), (7, .long x71), (9, .int v72), (10, .int v78), (11, .int x91)] → W p l e (rmd 3) s m args below meth c H locs 0 0 (QL D t A (wM t a) P below args s) (F0 m 342 ls [])) (by
                                              intro hw H locs ls h hl
                                              refine lv_aload_n (pc := 342) C.1 C.2.1 dX9_fill_342 rfl (lv_at hl 0 rfl) ?_
                                              refine GM_X9_121_0 (pc := 343) C h dX9_fill_343 ?_
                                              refine lv_bipush (v := 41) (pc := 346) C.1 C.2.1 dX9_fill_346 (by decide) ?_
                                              refine lv_iload (pc := 348) C.1 C.2.1 dX9_fill_348 (lv_at hl 4 rfl) ?_
                                              refine lv_imul (pc := 350) C.1 C.2.1 dX9_fill_350 ?_
                                              refine lv_iload (pc := 351) C.1 C.2.1 dX9_fill_351 (lv_at hl 7 rfl) ?_
                                              refine lv_iadd (pc := 353) C.1 C.2.1 dX9_fill_353 ?_
                                              refine lv_iconst (v := 1) (pc := 354) C.1 C.2.1 dX9_fill_354 (by decide) ?_
                                              refine stM_34 (pc := 355) C h hw.1 dX9_fill_355 (fun z94 ez94 H locs h => ?_)
                                              have hw := hw.2 z94 ez94
                                              refine lv_aload_n (pc := 356) C.1 C.2.1 dX9_fill_356 rfl (lv_at hl 0 rfl) ?_
                                              refine GM_X9_118_0 (pc := 357) C h dX9_fill_357 ?_
                                              refine lv_bipush (v := 41) (pc := 360) C.1 C.2.1 dX9_fill_360 (by decide) ?_
                                              refine lv_iload (pc := 362) C.1 C.2.1 dX9_fill_362 (lv_at hl 4 rfl) ?_
                                              refine lv_imul (pc := 364) C.1 C.2.1 dX9_fill_364 ?_
                                              refine lv_iload (pc := 365) C.1 C.2.1 dX9_fill_365 (lv_at hl 7 rfl) ?_
                                              refine lv_iadd (pc := 367) C.1 C.2.1 dX9_fill_367 ?_
                                              refine lv_aload_n (pc := 368) C.1 C.2.1 dX9_fill_368 rfl (lv_at hl 0 rfl) ?_
                                              refine GM_X9_118_0 (pc := 369) C h dX9_fill_369 ?_
                                              refine lv_iload (pc := 372) C.1 C.2.1 dX9_fill_372 (lv_at hl 9 rfl) ?_
                                              refine ldM_33 (pc := 374) C h hw.1 dX9_fill_374 ?_
                                              have hw := hw.2
                                              refine lv_iload (pc := 375) C.1 C.2.1 dX9_fill_375 (lv_at hl 8 rfl) ?_
                                              refine lv_i2l (pc := 377) C.1 C.2.1 dX9_fill_377 rfl ?_
                                              refine lv_lload (pc := 378) C.1 C.2.1 dX9_fill_378 (lv_at hl 6 rfl) ?_
                                              refine lv_lmul (pc := 380) C.1 C.2.1 dX9_fill_380 ?_
                                              refine lv_ladd (pc := 381) C.1 C.2.1 dX9_fill_381 ?_
                                              refine stM_33 (pc := 382) C h hw.1 dX9_fill_382 (fun z95 ez95 H locs h => ?_)
                                              have hw := hw.2 z95 ez95
                                              exact hw _ _ _ h (lv_sub hl [0, 1, 2, 3, 4, 5, 6, 7, 8] rfl))
                                          refine lv_if_eq (tgt := 342) (pc := 308) C.1 C.2.1 dX9_fill_308 (by decide) (fun c96 => ?_) (fun c96 => ?_)
                                          · have hw := hw.1 c96
                                            exact hw _ _ _ h (lv_sub hl [1, 2, 3, 4, 5, 6, 7, 8, 9, 0] rfl)
                                          · have hw := hw.2 c96
                                            refine lv_aload_n (pc := 311) C.1 C.2.1 dX9_fill_311 rfl (lv_at hl 1 rfl) ?_
                                            refine GM_X9_118_0 (pc := 312) C h dX9_fill_312 ?_
                                            refine lv_iload (pc := 315) C.1 C.2.1 dX9_fill_315 (lv_at hl 0 rfl) ?_
                                            refine ldM_33 (pc := 317) C h hw.1 dX9_fill_317 ?_
                                            have hw := hw.2
                                            refine lv_iload (pc := 318) C.1 C.2.1 dX9_fill_318 (lv_at hl 9 rfl) ?_
                                            refine lv_i2l (pc := 320) C.1 C.2.1 dX9_fill_320 rfl ?_
                                            refine lv_lload (pc := 321) C.1 C.2.1 dX9_fill_321 (lv_at hl 7 rfl) ?_
                                            refine lv_lmul (pc := 323) C.1 C.2.1 dX9_fill_323 ?_
                                            refine lv_ladd (pc := 324) C.1 C.2.1 dX9_fill_324 ?_
                                            refine lv_aload_n (pc := 325) C.1 C.2.1 dX9_fill_325 rfl (lv_at hl 1 rfl) ?_
                                            refine GM_X9_118_0 (pc := 326) C h dX9_fill_326 ?_
                                            refine lv_bipush (v := 41) (pc := 329) C.1 C.2.1 dX9_fill_329 (by decide) ?_
                                            refine lv_iload (pc := 331) C.1 C.2.1 dX9_fill_331 (lv_at hl 5 rfl) ?_
                                            refine lv_imul (pc := 333) C.1 C.2.1 dX9_fill_333 ?_
                                            refine lv_iload (pc := 334) C.1 C.2.1 dX9_fill_334 (lv_at hl 8 rfl) ?_
                                            refine lv_iadd (pc := 336) C.1 C.2.1 dX9_fill_336 ?_
                                            refine ldM_33 (pc := 337) C h hw.1 dX9_fill_337 ?_
                                            have hw := hw.2
                                            refine W.lcmp (pc := 338) C.1 C.2.1 dX9_fill_338 ?_
                                            refine lv_if_ge (tgt := 383) (pc := 339) C.1 C.2.1 dX9_fill_339 (by decide) (fun c97 => ?_) (fun c97 => ?_)
                                            · have hw := hw.1 c97
                                              exact hw _ _ _ h (lv_sub hl [1, 2, 3, 4, 5, 6, 7, 8, 9] rfl)
                                            · have hw := hw.2 c97
                                              exact hw _ _ _ h (lv_sub hl [1, 2, 3, 4, 5, 6, 7, 8, 9, 0] rfl)
                                      · have hw := hw.2 c88
                                        refine lv_goto (tgt := 383) (pc := 261) C.1 C.2.1 dX9_fill_261 (by decide) ?_
                                        exact hw _ _ _ h (lv_sub hl [0, 1, 2, 3, 4, 5, 6, 7, 8] rfl))
                                refine lv_topi (fun x98 ex98 => ?_)
                                have hw := hw x98 ex98
                                refine lv_istore (lv' := [(10, .int x98), (0, .ref (a 0)), (1, .int b1), (2, .int b2), (4, .int x15), (5, .int v20), (6, .int r68), (7, .long x71), (9, .int v72)]) (pc := 227) C.1 C.2.1 dX9_fill_227 hl (by decide) rfl (fun ls hl => ?_)
                                exact hw _ _ _ h (lv_sub hl [1, 2, 3, 4, 5, 6, 7, 8, 0] rfl))
                          refine lv_istore (lv' := [(9, .int ((0 : Int32))), (7, .long x71), (6, .int r68), (0, .ref (a 0)), (1, .int b1), (2, .int b2), (4, .int x15), (5, .int v20)]) (pc := 197) C.1 C.2.1 dX9_fill_197 hl (by decide) rfl (fun ls hl => ?_)
                          exact hw _ _ _ h (lv_sub hl [3, 4, 5, 6, 7, 2, 1, 0] rfl))
                    refine lv_topi (fun x99 ex99 => ?_)
                    have hw := hw x99 ex99
                    refine lv_istore (lv' := [(5, .int x99), (0, .ref (a 0)), (1, .int b1), (2, .int b2), (3, .int b3), (4, .int x15)]) (pc := 143) C.1 C.2.1 dX9_fill_143 hl (by decide) rfl (fun ls hl => ?_)
                    exact hw _ _ _ h (lv_sub hl [1, 2, 3, 5, 0] rfl)
                  · have hw := hw.2 c19
                    refine lv_aload_n (pc := 98) C.1 C.2.1 dX9_fill_98 rfl (lv_at hl 0 rfl) ?_
                    refine GM_X9_118_0 (pc := 99) C h dX9_fill_99 ?_
                    refine lv_bipush (v := 41) (pc := 102) C.1 C.2.1 dX9_fill_102 (by decide) ?_
                    refine lv_iload_n (pc := 104) C.1 C.2.1 dX9_fill_104 rfl (lv_at hl 2 rfl) ?_
                    refine lv_imul (pc := 105) C.1 C.2.1 dX9_fill_105 ?_
                    refine lv_iload (pc := 106) C.1 C.2.1 dX9_fill_106 (lv_at hl 5 rfl) ?_
                    refine lv_iadd (pc := 108) C.1 C.2.1 dX9_fill_108 ?_
                    refine lv_lconst (v := 0) (pc := 109) C.1 C.2.1 dX9_fill_109 (by decide) ?_
                    refine stM_33 (pc := 110) C h hw.1 dX9_fill_110 (fun z100 ez100 H locs h => ?_)
                    have hw := hw.2 z100 ez100
                    refine lv_aload_n (pc := 111) C.1 C.2.1 dX9_fill_111 rfl (lv_at hl 0 rfl) ?_
                    refine GM_X9_121_0 (pc := 112) C h dX9_fill_112 ?_
                    refine lv_bipush (v := 41) (pc := 115) C.1 C.2.1 dX9_fill_115 (by decide) ?_
                    refine lv_iload_n (pc := 117) C.1 C.2.1 dX9_fill_117 rfl (lv_at hl 2 rfl) ?_
                    refine lv_imul (pc := 118) C.1 C.2.1 dX9_fill_118 ?_
                    refine lv_iload (pc := 119) C.1 C.2.1 dX9_fill_119 (lv_at hl 5 rfl) ?_
                    refine lv_iadd (pc := 121) C.1 C.2.1 dX9_fill_121 ?_
                    refine lv_iload (pc := 122) C.1 C.2.1 dX9_fill_122 (lv_at hl 5 rfl) ?_
                    refine lv_iload_n (pc := 124) C.1 C.2.1 dX9_fill_124 rfl (lv_at hl 3 rfl) ?_
                    have hw := hw (fun (s101 : Int32) (s102 : Int32) => ∀ (H : Heap) (locs : List Loc) (ls : Array Slot), wd D t A s (wM t a z100) H locs → lv_has ls 13 [(0, .ref (a 0)), (1, .int b1), (2, .int b2), (3, .int b3), (4, .int x15), (5, .int v16)] → W p l e (rmd 3) s m args below meth c H locs 0 0 (QL D t A (wM t a) P below args s) (F0 m 133 ls [.int s101, .int s102, .ref (a 34)])) (by
                        intro s101 s102 hw H locs ls h hl
                        refine stM_34 (pc := 133) C h hw.1 dX9_fill_133 (fun z104 ez104 H locs h => ?_)
                        have hw := hw.2 z104 ez104
                        obtain ⟨x105, ex105⟩ : ∃ y : Int32, y = v16 + (1) := ⟨_, rfl⟩
                        have hw := hw x105 ex105
                        refine lv_iinc (v := x105) (lv' := [(5, .int x105), (0, .ref (a 0)), (1, .int b1), (2, .int b2), (3, .int b3), (4, .int x15)]) (pc := 134) C.1 C.2.1 dX9_fill_134 hl (k := 5) rfl (by rw [ex105]; rfl) (by decide) rfl (fun ls hl => ?_)
                        refine lv_goto (tgt := 91) (pc := 137) C.1 C.2.1 dX9_fill_137 (by decide) ?_
                        exact hw _ _ _ h (lv_sub hl [1, 2, 3, 4, 5, 0] rfl))
                    refine lv_icmp_lt (tgt := 132) (pc := 125) C.1 C.2.1 dX9_fill_125 (by decide) (fun c106 => ?_) (fun c106 => ?_)
                    · have hw := hw.1 c106
                      refine lv_iconst (v := 0) (pc := 132) C.1 C.2.1 dX9_fill_132 (by decide) ?_
                      exact hw _ _ _ h (lv_sub hl [0, 1, 2, 3, 4, 5] rfl)
                    · have hw := hw.2 c106
                      refine lv_iconst (v := 1) (pc := 128) C.1 C.2.1 dX9_fill_128 (by decide) ?_
                      refine lv_goto (tgt := 133) (pc := 129) C.1 C.2.1 dX9_fill_129 (by decide) ?_
                      exact hw _ _ _ h (lv_sub hl [0, 1, 2, 3, 4, 5] rfl))
              refine lv_istore (lv' := [(5, .int ((0 : Int32))), (4, .int x15), (0, .ref (a 0)), (1, .int b1), (2, .int b2), (3, .int b3)]) (pc := 89) C.1 C.2.1 dX9_fill_89 hl (by decide) rfl (fun ls hl => ?_)
              exact hw _ _ _ h (lv_sub hl [2, 3, 4, 5, 1, 0] rfl)
            · have hw := hw.2 c14
              refine lv_aload_n (pc := 68) C.1 C.2.1 dX9_fill_68 rfl (lv_at hl 0 rfl) ?_
              refine lv_bipush (v := -2) (pc := 69) C.1 C.2.1 dX9_fill_69 (by decide) ?_
              refine PM_X9_134_0 (pc := 71) C h dX9_fill_71 (fun z107 ez107 H locs h => ?_)
              have hw := hw z107 ez107
              refine lv_ldc2 (pc := 74) C.1 C.2.1 C.2.2.2.1 (C.2.2.2.2 _ lc_X9_314) dX9_fill_74 ?_
              exact rt_l (pc := 77) C hr hlk h hw dX9_fill_77)
        refine lv_if_eq (tgt := 60) (pc := 38) C.1 C.2.1 dX9_fill_38 (by decide) (fun c108 => ?_) (fun c108 => ?_)
        · have hw := hw.1 c108
          exact hw _ _ _ h (lv_sub hl [0, 1, 2, 3] rfl)
        · have hw := hw.2 c108
          refine lv_iload_n (pc := 41) C.1 C.2.1 dX9_fill_41 rfl (lv_at hl 3 rfl) ?_
          refine lv_aload_n (pc := 42) C.1 C.2.1 dX9_fill_42 rfl (lv_at hl 0 rfl) ?_
          refine GM_X9_100_0 (pc := 43) C h dX9_fill_43 ?_
          refine lv_iload_n (pc := 46) C.1 C.2.1 dX9_fill_46 rfl (lv_at hl 1 rfl) ?_
          refine ldM_27 (pc := 47) C h hw.1 dX9_fill_47 ?_
          have hw := hw.2
          refine lv_icmp_le (tgt := 60) (pc := 48) C.1 C.2.1 dX9_fill_48 (by decide) (fun c109 => ?_) (fun c109 => ?_)
          · have hw := hw.1 c109
            exact hw _ _ _ h (lv_sub hl [0, 1, 2, 3] rfl)
          · have hw := hw.2 c109
            exact hw _ _ _ h (lv_sub hl [0] rfl)

def wp_X9_filled (b1 : Int32) (b2 : Int32) (z : St) (P : Int32 → St → Prop) : Prop :=
  (∀ z1 : St, z1 = wI z 0 ((0 : Int32)) → (wp_X9_in (Int32.toInt64 b1) ((0 : Int64)) ((Int32.toInt64 (gI z1 55)) - ((1 : Int64))) z1 (fun r3 => (((¬ r3 = 0) → (((¬ b2 = 0) → (((¬ b2 = ((1 : Int32))) → P ((-1000 : Int32)) z1) ∧ (b2 = ((1 : Int32)) → (vp_in b1 48 ∧ P (gF z1 36 b1.toNatClampNeg) z1)))) ∧ (b2 = 0 → (vp_in b1 48 ∧ P (gF z1 35 b1.toNatClampNeg) z1)))) ∧ (r3 = 0 → P ((-1000 : Int32)) z1)))))
set_option maxHeartbeats 4000000 in
set_option maxRecDepth 100000 in
theorem m_X9_filled (l : Launch) (D : va_G) (t : Ty3) (a : Nat → Nat) (b1 : Int32) (b2 : Int32) (z : St) (P : Int32 → St → Prop) (hw : wp_X9_filled b1 b2 z P) : CtI l D t yX9_filled cX9_filled 3 (some .int) 1 (wM t a) (wM t a z) [.ref (a 0), .int b1, .int b2] P := by
  refine ctI_of (by decide) (Nat.le_of_ble_eq_true rfl) ?_
  intro p e s m args below meth c A ls C hr hlk h hl
  have hl : lv_has ls 3 [(0, .ref (a 0)), (1, .int b1), (2, .int b2)] := hl
  unfold wp_X9_filled at hw
  refine lv_aload_n (pc := 0) C.1 C.2.1 dX9_filled_0 rfl (lv_at hl 0 rfl) ?_
  refine lv_iconst (v := 0) (pc := 1) C.1 C.2.1 dX9_filled_1 (by decide) ?_
  refine PM_X9_131_0 (pc := 2) C h dX9_filled_2 (fun z1 ez1 H locs h => ?_)
  have hw := hw z1 ez1
  refine lv_iload_n (pc := 5) C.1 C.2.1 dX9_filled_5 rfl (lv_at hl 1 rfl) ?_
  refine lv_i2l (pc := 6) C.1 C.2.1 dX9_filled_6 rfl ?_
  refine lv_lconst (v := 0) (pc := 7) C.1 C.2.1 dX9_filled_7 (by decide) ?_
  refine lv_aload_n (pc := 8) C.1 C.2.1 dX9_filled_8 rfl (lv_at hl 0 rfl) ?_
  refine GM_X9_323_0 (pc := 9) C h dX9_filled_9 ?_
  refine lv_i2l (pc := 12) C.1 C.2.1 dX9_filled_12 rfl ?_
  refine lv_lconst (v := 1) (pc := 13) C.1 C.2.1 dX9_filled_13 (by decide) ?_
  refine lv_lsub (pc := 14) C.1 C.2.1 dX9_filled_14 ?_
  refine cl_si (pc := 15) (As := [.long (Int32.toInt64 b1), .long ((0 : Int64)), .long ((Int32.toInt64 (gI z1 55)) - ((1 : Int64)))]) (rest := []) C h (m_X9_in l D t a (Int32.toInt64 b1) ((0 : Int64)) ((Int32.toInt64 (gI z1 55)) - ((1 : Int64))) z1 _ hw) mw_X9_in lm_X9_139 md_X9_in ⟨by decide, by decide⟩ ⟨Nat.zero_le _, Nat.zero_le _⟩ hl.1 rfl (Nat.le_of_ble_eq_true rfl) dX9_filled_15 (fun r3 z2 H locs hw h => ?_)
  rw [hw.1] at h
  have hw := hw.2
  refine lv_if_ne (tgt := 27) (pc := 18) C.1 C.2.1 dX9_filled_18 (by decide) (fun c4 => ?_) (fun c4 => ?_)
  · have hw := hw.1 c4
    refine lv_iload_n (pc := 27) C.1 C.2.1 dX9_filled_27 rfl (lv_at hl 2 rfl) ?_
    refine lv_if_ne (tgt := 40) (pc := 28) C.1 C.2.1 dX9_filled_28 (by decide) (fun c5 => ?_) (fun c5 => ?_)
    · have hw := hw.1 c5
      refine lv_iload_n (pc := 40) C.1 C.2.1 dX9_filled_40 rfl (lv_at hl 2 rfl) ?_
      refine lv_iconst (v := 1) (pc := 41) C.1 C.2.1 dX9_filled_41 (by decide) ?_
      refine lv_icmp_ne (tgt := 54) (pc := 42) C.1 C.2.1 dX9_filled_42 (by decide) (fun c6 => ?_) (fun c6 => ?_)
      · have hw := hw.1 c6
        refine lv_sipush (v := -1000) (pc := 54) C.1 C.2.1 dX9_filled_54 (by decide) ?_
        exact rt_i (pc := 57) C hr hlk h hw dX9_filled_57
      · have hw := hw.2 c6
        refine lv_aload_n (pc := 45) C.1 C.2.1 dX9_filled_45 rfl (lv_at hl 0 rfl) ?_
        refine GM_X9_128_0 (pc := 46) C h dX9_filled_46 ?_
        refine lv_iload_n (pc := 49) C.1 C.2.1 dX9_filled_49 rfl (lv_at hl 1 rfl) ?_
        refine ldM_36 (pc := 50) C h hw.1 dX9_filled_50 ?_
        have hw := hw.2
        refine lv_goto (tgt := 57) (pc := 51) C.1 C.2.1 dX9_filled_51 (by decide) ?_
        exact rt_i (pc := 57) C hr hlk h hw dX9_filled_57
    · have hw := hw.2 c5
      refine lv_aload_n (pc := 31) C.1 C.2.1 dX9_filled_31 rfl (lv_at hl 0 rfl) ?_
      refine GM_X9_125_0 (pc := 32) C h dX9_filled_32 ?_
      refine lv_iload_n (pc := 35) C.1 C.2.1 dX9_filled_35 rfl (lv_at hl 1 rfl) ?_
      refine ldM_35 (pc := 36) C h hw.1 dX9_filled_36 ?_
      have hw := hw.2
      refine lv_goto (tgt := 57) (pc := 37) C.1 C.2.1 dX9_filled_37 (by decide) ?_
      exact rt_i (pc := 57) C hr hlk h hw dX9_filled_57
  · have hw := hw.2 c4
    refine lv_sipush (v := -1000) (pc := 21) C.1 C.2.1 dX9_filled_21 (by decide) ?_
    refine lv_goto (tgt := 57) (pc := 24) C.1 C.2.1 dX9_filled_24 (by decide) ?_
    exact rt_i (pc := 57) C hr hlk h hw dX9_filled_57

def wp_X9_jobsThat (b1 : Int32) (z : St) (P : Int32 → Prop) : Prop :=
  (∀ K3 : Int32 → Int32 → Prop, (∀ (v1 : Int32) (v2 : Int32), ((((gI z 12) ≤ v2) → P v1) ∧ (¬ ((gI z 12) ≤ v2) → (vp_in v2 16 ∧ (∀ K7 : Int32 → Int32 → Prop, (∀ (s5 : Int32) (s6 : Int32), (∀ x8 : Int32, x8 = s6 + s5 → (∀ x9 : Int32, x9 = v2 + (1) → K3 x8 x9)) → K7 s5 s6) → (((¬ (gF z 11 v2.toNatClampNeg) = b1) → K7 ((0 : Int32)) v1) ∧ ((gF z 11 v2.toNatClampNeg) = b1 → K7 ((1 : Int32)) v1)))))) → K3 v1 v2) → K3 ((0 : Int32)) ((0 : Int32)))
set_option maxHeartbeats 4000000 in
set_option maxRecDepth 100000 in
theorem m_X9_jobsThat (l : Launch) (D : va_G) (t : Ty3) (a : Nat → Nat) (b1 : Int32) (z : St) (P : Int32 → Prop) (hw : wp_X9_jobsThat b1 z P) : CtI l D t yX9_jobsThat cX9_jobsThat 4 (some .int) 0 (wM t a) (wM t a z) [.ref (a 0), .int b1] (fun rr zz => zz = z ∧ P rr) := by
  refine ctI_of (by decide) (Nat.le_of_ble_eq_true rfl) ?_
  intro p e s m args below meth c A ls C hr hlk h hl
  have hl : lv_has ls 4 [(0, .ref (a 0)), (1, .int b1)] := hl
  unfold wp_X9_jobsThat at hw
  refine lv_iconst (v := 0) (pc := 0) C.1 C.2.1 dX9_jobsThat_0 (by decide) ?_
  refine lv_istore_n (lv' := [(2, .int ((0 : Int32))), (0, .ref (a 0)), (1, .int b1)]) (pc := 1) C.1 C.2.1 dX9_jobsThat_1 rfl hl (by decide) rfl (fun ls hl => ?_)
  refine lv_iconst (v := 0) (pc := 2) C.1 C.2.1 dX9_jobsThat_2 (by decide) ?_
  have hw := hw (fun (v1 : Int32) (v2 : Int32) => ∀ (H : Heap) (locs : List Loc) (ls : Array Slot), wd D t A s (wM t a z) H locs → lv_has ls 4 [(0, .ref (a 0)), (1, .int b1), (2, .int v1), (3, .int v2)] → W p l e (rmd 0) s m args below meth c H locs 0 0 (QI D t A (wM t a) (fun rr zz => zz = z ∧ P rr) below args s) (F0 m 4 ls [])) (by
      intro v1 v2 hw H locs ls h hl
      refine lv_iload_n (pc := 4) C.1 C.2.1 dX9_jobsThat_4 rfl (lv_at hl 3 rfl) ?_
      refine lv_aload_n (pc := 5) C.1 C.2.1 dX9_jobsThat_5 rfl (lv_at hl 0 rfl) ?_
      refine GM_X9_148_0 (pc := 6) C h dX9_jobsThat_6 ?_
      refine lv_icmp_ge (tgt := 36) (pc := 9) C.1 C.2.1 dX9_jobsThat_9 (by decide) (fun c4 => ?_) (fun c4 => ?_)
      · have hw := hw.1 c4
        refine lv_iload_n (pc := 36) C.1 C.2.1 dX9_jobsThat_36 rfl (lv_at hl 2 rfl) ?_
        exact rt_i (pc := 37) C hr hlk h ⟨rfl, hw⟩ dX9_jobsThat_37
      · have hw := hw.2 c4
        refine lv_iload_n (pc := 12) C.1 C.2.1 dX9_jobsThat_12 rfl (lv_at hl 2 rfl) ?_
        refine lv_aload_n (pc := 13) C.1 C.2.1 dX9_jobsThat_13 rfl (lv_at hl 0 rfl) ?_
        refine GM_X9_48_0 (pc := 14) C h dX9_jobsThat_14 ?_
        refine lv_iload_n (pc := 17) C.1 C.2.1 dX9_jobsThat_17 rfl (lv_at hl 3 rfl) ?_
        refine ldM_11 (pc := 18) C h hw.1 dX9_jobsThat_18 ?_
        have hw := hw.2
        refine lv_iload_n (pc := 19) C.1 C.2.1 dX9_jobsThat_19 rfl (lv_at hl 1 rfl) ?_
        have hw := hw (fun (s5 : Int32) (s6 : Int32) => ∀ (H : Heap) (locs : List Loc) (ls : Array Slot), wd D t A s (wM t a z) H locs → lv_has ls 4 [(0, .ref (a 0)), (1, .int b1), (3, .int v2)] → W p l e (rmd 0) s m args below meth c H locs 0 0 (QI D t A (wM t a) (fun rr zz => zz = z ∧ P rr) below args s) (F0 m 28 ls [.int s5, .int s6])) (by
            intro s5 s6 hw H locs ls h hl
            refine lv_iadd (pc := 28) C.1 C.2.1 dX9_jobsThat_28 ?_
            refine lv_topi (fun x8 ex8 => ?_)
            have hw := hw x8 ex8
            refine lv_istore_n (lv' := [(2, .int x8), (0, .ref (a 0)), (1, .int b1), (3, .int v2)]) (pc := 29) C.1 C.2.1 dX9_jobsThat_29 rfl hl (by decide) rfl (fun ls hl => ?_)
            obtain ⟨x9, ex9⟩ : ∃ y : Int32, y = v2 + (1) := ⟨_, rfl⟩
            have hw := hw x9 ex9
            refine lv_iinc (v := x9) (lv' := [(3, .int x9), (2, .int x8), (0, .ref (a 0)), (1, .int b1)]) (pc := 30) C.1 C.2.1 dX9_jobsThat_30 hl (k := 3) rfl (by rw [ex9]; rfl) (by decide) rfl (fun ls hl => ?_)
            refine lv_goto (tgt := 4) (pc := 33) C.1 C.2.1 dX9_jobsThat_33 (by decide) ?_
            exact hw _ _ _ h (lv_sub hl [2, 3, 1, 0] rfl))
        refine lv_icmp_ne (tgt := 27) (pc := 20) C.1 C.2.1 dX9_jobsThat_20 (by decide) (fun c10 => ?_) (fun c10 => ?_)
        · have hw := hw.1 c10
          refine lv_iconst (v := 0) (pc := 27) C.1 C.2.1 dX9_jobsThat_27 (by decide) ?_
          exact hw _ _ _ h (lv_sub hl [0, 1, 3] rfl)
        · have hw := hw.2 c10
          refine lv_iconst (v := 1) (pc := 23) C.1 C.2.1 dX9_jobsThat_23 (by decide) ?_
          refine lv_goto (tgt := 28) (pc := 24) C.1 C.2.1 dX9_jobsThat_24 (by decide) ?_
          exact hw _ _ _ h (lv_sub hl [0, 1, 3] rfl))
  refine lv_istore_n (lv' := [(3, .int ((0 : Int32))), (2, .int ((0 : Int32))), (0, .ref (a 0)), (1, .int b1)]) (pc := 3) C.1 C.2.1 dX9_jobsThat_3 rfl hl (by decide) rfl (fun ls hl => ?_)
  exact hw _ _ _ h (lv_sub hl [2, 3, 1, 0] rfl)

def wp_X9_count (b1 : Int32) (z : St) (P : Int32 → St → Prop) : Prop :=
  (∀ z1 : St, z1 = wI z 0 ((0 : Int32)) → ((b1 = 0 → P (gI z1 2) z1) ∧ (b1 = 1 → P (gI z1 8) z1) ∧ (b1 = 2 → P (gI z1 12) z1) ∧ (b1 = 3 → P (gI z1 3) z1) ∧ (b1 = 4 → P (gI z1 22) z1) ∧ (b1 = 5 → P (gI z1 43) z1) ∧ (b1 = 6 → P (gI z1 36) z1) ∧ (b1 = 7 → (wp_X9_jobsThat ((0 : Int32)) z1 (fun r4 => P r4 z1))) ∧ (b1 = 8 → (wp_X9_jobsThat ((1 : Int32)) z1 (fun r6 => P r6 z1))) ∧ (b1 = 9 → (wp_X9_jobsThat ((2 : Int32)) z1 (fun r8 => P r8 z1))) ∧ ((b1.toInt < 0 ∨ 9 < b1.toInt) → P ((-1 : Int32)) z1)))
set_option maxHeartbeats 4000000 in
set_option maxRecDepth 100000 in
theorem m_X9_count (l : Launch) (D : va_G) (t : Ty3) (a : Nat → Nat) (b1 : Int32) (z : St) (P : Int32 → St → Prop) (hw : wp_X9_count b1 z P) : CtI l D t yX9_count cX9_count 2 (some .int) 1 (wM t a) (wM t a z) [.ref (a 0), .int b1] P := by
  refine ctI_of (by decide) (Nat.le_of_ble_eq_true rfl) ?_
  intro p e s m args below meth c A ls C hr hlk h hl
  have hl : lv_has ls 2 [(0, .ref (a 0)), (1, .int b1)] := hl
  unfold wp_X9_count at hw
  refine lv_aload_n (pc := 0) C.1 C.2.1 dX9_count_0 rfl (lv_at hl 0 rfl) ?_
  refine lv_iconst (v := 0) (pc := 1) C.1 C.2.1 dX9_count_1 (by decide) ?_
  refine PM_X9_131_0 (pc := 2) C h dX9_count_2 (fun z1 ez1 H locs h => ?_)
  have hw := hw z1 ez1
  refine lv_iload_n (pc := 5) C.1 C.2.1 dX9_count_5 rfl (lv_at hl 1 rfl) ?_
  by_cases c2_0 : b1 = 0
  · have hw := hw.1 c2_0
    refine lv_tableIn (off := 54) (tgt := 60) (pc := 6) C.1 C.2.1 dX9_count_6 (by rw [c2_0]; decide) (by rw [c2_0]; decide) (by rw [c2_0]; rfl) (by decide) ?_
    refine lv_aload_n (pc := 60) C.1 C.2.1 dX9_count_60 rfl (lv_at hl 0 rfl) ?_
    refine GM_X9_173_0 (pc := 61) C h dX9_count_61 ?_
    exact rt_i (pc := 64) C hr hlk h hw dX9_count_64
  by_cases c2_1 : b1 = 1
  · have hw := hw.2.1 c2_1
    refine lv_tableIn (off := 59) (tgt := 65) (pc := 6) C.1 C.2.1 dX9_count_6 (by rw [c2_1]; decide) (by rw [c2_1]; decide) (by rw [c2_1]; rfl) (by decide) ?_
    refine lv_aload_n (pc := 65) C.1 C.2.1 dX9_count_65 rfl (lv_at hl 0 rfl) ?_
    refine GM_X9_145_0 (pc := 66) C h dX9_count_66 ?_
    exact rt_i (pc := 69) C hr hlk h hw dX9_count_69
  by_cases c2_2 : b1 = 2
  · have hw := hw.2.2.1 c2_2
    refine lv_tableIn (off := 64) (tgt := 70) (pc := 6) C.1 C.2.1 dX9_count_6 (by rw [c2_2]; decide) (by rw [c2_2]; decide) (by rw [c2_2]; rfl) (by decide) ?_
    refine lv_aload_n (pc := 70) C.1 C.2.1 dX9_count_70 rfl (lv_at hl 0 rfl) ?_
    refine GM_X9_148_0 (pc := 71) C h dX9_count_71 ?_
    exact rt_i (pc := 74) C hr hlk h hw dX9_count_74
  by_cases c2_3 : b1 = 3
  · have hw := hw.2.2.2.1 c2_3
    refine lv_tableIn (off := 69) (tgt := 75) (pc := 6) C.1 C.2.1 dX9_count_6 (by rw [c2_3]; decide) (by rw [c2_3]; decide) (by rw [c2_3]; rfl) (by decide) ?_
    refine lv_aload_n (pc := 75) C.1 C.2.1 dX9_count_75 rfl (lv_at hl 0 rfl) ?_
    refine GM_X9_166_0 (pc := 76) C h dX9_count_76 ?_
    exact rt_i (pc := 79) C hr hlk h hw dX9_count_79
  by_cases c2_4 : b1 = 4
  · have hw := hw.2.2.2.2.1 c2_4
    refine lv_tableIn (off := 74) (tgt := 80) (pc := 6) C.1 C.2.1 dX9_count_6 (by rw [c2_4]; decide) (by rw [c2_4]; decide) (by rw [c2_4]; rfl) (by decide) ?_
    refine lv_aload_n (pc := 80) C.1 C.2.1 dX9_count_80 rfl (lv_at hl 0 rfl) ?_
    refine GM_X9_207_0 (pc := 81) C h dX9_count_81 ?_
    exact rt_i (pc := 84) C hr hlk h hw dX9_count_84
  by_cases c2_5 : b1 = 5
  · have hw := hw.2.2.2.2.2.1 c2_5
    refine lv_tableIn (off := 79) (tgt := 85) (pc := 6) C.1 C.2.1 dX9_count_6 (by rw [c2_5]; decide) (by rw [c2_5]; decide) (by rw [c2_5]; rfl) (by decide) ?_
    refine lv_aload_n (pc := 85) C.1 C.2.1 dX9_count_85 rfl (lv_at hl 0 rfl) ?_
    refine GM_X9_306_0 (pc := 86) C h dX9_count_86 ?_
    exact rt_i (pc := 89) C hr hlk h hw dX9_count_89
  by_cases c2_6 : b1 = 6
  · have hw := hw.2.2.2.2.2.2.1 c2_6
    refine lv_tableIn (off := 84) (tgt := 90) (pc := 6) C.1 C.2.1 dX9_count_6 (by rw [c2_6]; decide) (by rw [c2_6]; decide) (by rw [c2_6]; rfl) (by decide) ?_
    refine lv_aload_n (pc := 90) C.1 C.2.1 dX9_count_90 rfl (lv_at hl 0 rfl) ?_
    refine GM_X9_243_0 (pc := 91) C h dX9_count_91 ?_
    exact rt_i (pc := 94) C hr hlk h hw dX9_count_94
  by_cases c2_7 : b1 = 7
  · have hw := hw.2.2.2.2.2.2.2.1 c2_7
    refine lv_tableIn (off := 89) (tgt := 95) (pc := 6) C.1 C.2.1 dX9_count_6 (by rw [c2_7]; decide) (by rw [c2_7]; decide) (by rw [c2_7]; rfl) (by decide) ?_
    refine lv_aload_n (pc := 95) C.1 C.2.1 dX9_count_95 rfl (lv_at hl 0 rfl) ?_
    refine lv_iconst (v := 0) (pc := 96) C.1 C.2.1 dX9_count_96 (by decide) ?_
    refine cl_vi (pc := 97) (As := [.int ((0 : Int32))]) (rest := []) C h (m_X9_jobsThat l D t a ((0 : Int32)) z1 _ hw) mw_X9_jobsThat lm_X9_326 md_X9_jobsThat rcM_0 ⟨by decide, by decide⟩ ⟨Nat.zero_le _, Nat.zero_le _⟩ hl.1 rfl (Nat.le_of_ble_eq_true rfl) dX9_count_97 (fun r4 z3 H locs hw h => ?_)
    rw [hw.1] at h
    have hw := hw.2
    exact rt_i (pc := 100) C hr hlk h hw dX9_count_100
  by_cases c2_8 : b1 = 8
  · have hw := hw.2.2.2.2.2.2.2.2.1 c2_8
    refine lv_tableIn (off := 95) (tgt := 101) (pc := 6) C.1 C.2.1 dX9_count_6 (by rw [c2_8]; decide) (by rw [c2_8]; decide) (by rw [c2_8]; rfl) (by decide) ?_
    refine lv_aload_n (pc := 101) C.1 C.2.1 dX9_count_101 rfl (lv_at hl 0 rfl) ?_
    refine lv_iconst (v := 1) (pc := 102) C.1 C.2.1 dX9_count_102 (by decide) ?_
    refine cl_vi (pc := 103) (As := [.int ((1 : Int32))]) (rest := []) C h (m_X9_jobsThat l D t a ((1 : Int32)) z1 _ hw) mw_X9_jobsThat lm_X9_326 md_X9_jobsThat rcM_0 ⟨by decide, by decide⟩ ⟨Nat.zero_le _, Nat.zero_le _⟩ hl.1 rfl (Nat.le_of_ble_eq_true rfl) dX9_count_103 (fun r6 z5 H locs hw h => ?_)
    rw [hw.1] at h
    have hw := hw.2
    exact rt_i (pc := 106) C hr hlk h hw dX9_count_106
  by_cases c2_9 : b1 = 9
  · have hw := hw.2.2.2.2.2.2.2.2.2.1 c2_9
    refine lv_tableIn (off := 101) (tgt := 107) (pc := 6) C.1 C.2.1 dX9_count_6 (by rw [c2_9]; decide) (by rw [c2_9]; decide) (by rw [c2_9]; rfl) (by decide) ?_
    refine lv_aload_n (pc := 107) C.1 C.2.1 dX9_count_107 rfl (lv_at hl 0 rfl) ?_
    refine lv_iconst (v := 2) (pc := 108) C.1 C.2.1 dX9_count_108 (by decide) ?_
    refine cl_vi (pc := 109) (As := [.int ((2 : Int32))]) (rest := []) C h (m_X9_jobsThat l D t a ((2 : Int32)) z1 _ hw) mw_X9_jobsThat lm_X9_326 md_X9_jobsThat rcM_0 ⟨by decide, by decide⟩ ⟨Nat.zero_le _, Nat.zero_le _⟩ hl.1 rfl (Nat.le_of_ble_eq_true rfl) dX9_count_109 (fun r8 z7 H locs hw h => ?_)
    rw [hw.1] at h
    have hw := hw.2
    exact rt_i (pc := 112) C hr hlk h hw dX9_count_112
  have nc2_0 := lv_neT (a := 0) c2_0 (by decide)
  have nc2_1 := lv_neT (a := 1) c2_1 (by decide)
  have nc2_2 := lv_neT (a := 2) c2_2 (by decide)
  have nc2_3 := lv_neT (a := 3) c2_3 (by decide)
  have nc2_4 := lv_neT (a := 4) c2_4 (by decide)
  have nc2_5 := lv_neT (a := 5) c2_5 (by decide)
  have nc2_6 := lv_neT (a := 6) c2_6 (by decide)
  have nc2_7 := lv_neT (a := 7) c2_7 (by decide)
  have nc2_8 := lv_neT (a := 8) c2_8 (by decide)
  have nc2_9 := lv_neT (a := 9) c2_9 (by decide)
  have hdc2 : b1.toInt < 0 ∨ 9 < b1.toInt := by omega
  have hw := hw.2.2.2.2.2.2.2.2.2.2 hdc2
  refine lv_tableOut (tgt := 113) (pc := 6) C.1 C.2.1 dX9_count_6 hdc2 (by decide) ?_
  refine lv_iconst (v := -1) (pc := 113) C.1 C.2.1 dX9_count_113 (by decide) ?_
  exact rt_i (pc := 114) C hr hlk h hw dX9_count_114

def wp_X9_status  (z : St) (P : Int32 → St → Prop) : Prop :=
  (∀ z1 : St, z1 = wI z 0 ((0 : Int32)) → P (gI z1 1) z1)
set_option maxHeartbeats 4000000 in
set_option maxRecDepth 100000 in
theorem m_X9_status (l : Launch) (D : va_G) (t : Ty3) (a : Nat → Nat)  (z : St) (P : Int32 → St → Prop) (hw : wp_X9_status z P) : CtI l D t yX9_status cX9_status 1 (some .int) 0 (wM t a) (wM t a z) [.ref (a 0)] P := by
  refine ctI_of (by decide) (Nat.le_of_ble_eq_true rfl) ?_
  intro p e s m args below meth c A ls C hr hlk h hl
  have hl : lv_has ls 1 [(0, .ref (a 0))] := hl
  unfold wp_X9_status at hw
  refine lv_aload_n (pc := 0) C.1 C.2.1 dX9_status_0 rfl (lv_at hl 0 rfl) ?_
  refine lv_iconst (v := 0) (pc := 1) C.1 C.2.1 dX9_status_1 (by decide) ?_
  refine PM_X9_131_0 (pc := 2) C h dX9_status_2 (fun z1 ez1 H locs h => ?_)
  have hw := hw z1 ez1
  refine lv_aload_n (pc := 5) C.1 C.2.1 dX9_status_5 rfl (lv_at hl 0 rfl) ?_
  refine GM_X9_134_0 (pc := 6) C h dX9_status_6 ?_
  exact rt_i (pc := 9) C hr hlk h hw dX9_status_9
