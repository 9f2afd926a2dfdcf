-- CALLS OF BOTH SIDES: stores and fillings
/-- the table's last row -/
theorem fm_0 (b2 b3 x15 : Int32) (z1 : St) (Q : St → Prop) (n : Nat) (M wish : Int) (t1 : TM z1) (hn : b2.toInt = (n : Int)) (h48 : n ≤ 48) (h15 : x15.toInt = M + 1) (hM : 0 ≤ M ∧ M ≤ 40) (hw : b3.toInt = wish) (hk : ∀ z2 : St, TM z2 → Same [] [34] z1 z2 → (∀ k : Nat, (k : Int) ≤ M → (gF z2 34 (41 * n + k) = 0 ∧ (k : Int) < wish) ∨ (¬ gF z2 34 (41 * n + k) = 0 ∧ wish ≤ (k : Int) ∧ gG z2 33 (41 * n + k) = 0)) → Q z2) : ∀ K17 : Int32 → St → Prop, (∀ (v16 : Int32) (z18 : St), (((x15 ≤ v16) → (Q z18)) ∧ (¬ (x15 ≤ v16) → (vp_in ((((41 : Int32)) * b2) + v16) 2009 ∧ (∀ z100 : St, z100 = wL z18 33 (vp_updL (gG z18 33) ((((41 : Int32)) * b2) + v16).toNatClampNeg ((0 : Int64))) → (∀ K103 : Int32 → Int32 → Prop, (∀ (s101 : Int32) (s102 : Int32), (vp_in s102 2009 ∧ (∀ z104 : St, z104 = wR z100 34 (upd (gF z100 34) s102.toNatClampNeg (vp_nar .boolean s101)) → (∀ x105 : Int32, x105 = v16 + (1) → K17 x105 z104))) → K103 s101 s102) → (((v16 < b3) → K103 ((0 : Int32)) ((((41 : Int32)) * b2) + v16)) ∧ (¬ (v16 < b3) → K103 ((1 : Int32)) ((((41 : Int32)) * b2) + v16)))))))) → K17 v16 z18) → K17 ((0 : Int32)) z1 := by
  have e01 : (1 : Int32).toInt = 1 := rfl
  have e00 : (0 : Int32).toInt = 0 := rfl
  intro K17 hK17
  have LL : ∀ (q : Nat) (v16 : Int32) (z18 : St), TM z18 → Same [] [34] z1 z18 → 0 ≤ v16.toInt → v16.toInt ≤ M + 1 → (∀ k : Nat, (k : Int) < v16.toInt → (gF z18 34 (41 * n + k) = 0 ∧ (k : Int) < wish) ∨ (¬ gF z18 34 (41 * n + k) = 0 ∧ wish ≤ (k : Int) ∧ gG z18 33 (41 * n + k) = 0)) → (M + 1 - v16.toInt).toNat < q → K17 v16 z18 := by
    intro q
    induction q with
    | zero => intro v16 z18 _ _ _ _ _ h; omega
    | succ q ih =>
      intro v16 z18 t18 s18 g0 g1 done gm
      have cv := clampN g0
      refine hK17 v16 z18 ⟨fun c => ?_, fun c => ?_⟩
      · have c' := i_le h15 rfl c
        exact hk z18 t18 s18 (fun k hk' => done k (by omega))
      · have c' := i_nle h15 rfl c
        have ixl : ((41 : Int32) * b2 + v16).toInt = 41 * (n : Int) + v16.toInt := a_add (a_mul (show (41 : Int32).toInt = 41 from rfl) hn (by omega) (by omega)) rfl (by omega) (by omega)
        have cxl : ((41 : Int32) * b2 + v16).toNatClampNeg = 41 * n + v16.toNatClampNeg := by
          have := clampN (x := (41 : Int32) * b2 + v16) (by omega)
          omega
        have hvl : vp_in ((41 : Int32) * b2 + v16) 2009 := vin ixl (by omega) (by omega)
        refine ⟨hvl, ?_⟩
        intro z100 e100
        rw [cxl] at e100
        intro K103 hK103
        have go : ∀ s101 : Int32, ((s101 = 0 ∧ v16.toInt < wish) ∨ (s101 = 1 ∧ wish ≤ v16.toInt)) → K103 s101 ((41 : Int32) * b2 + v16) := by
          intro s101 h101
          refine hK103 s101 _ ⟨hvl, ?_⟩
          rw [cxl]
          intro z104 e104 x105 e105
          have i105 : x105.toInt = v16.toInt + 1 := by rw [e105]; exact a_add rfl e01 (by omega) (by omega)
          have t100 : TM z100 := by rw [e100]; exact Ty_wL t18
          have y34 : gF z100 34 = gF z18 34 := by rw [e100]; rfl
          refine ih x105 z104 (by rw [e104]; exact Ty_wR t100 trivial) ((s18.l e100).r (by decide) e104) (by omega) (by omega) (fun k hk' => ?_) (by omega)
          have w33 : ∀ j, gG z104 33 j = if j = 41 * n + v16.toNatClampNeg then 0 else gG z18 33 j := by
            intro j
            rw [e104]
            show gG z100 33 j = _
            rw [e100, gG_upd]
          have w34 : ∀ j, gF z104 34 j = if j = 41 * n + v16.toNatClampNeg then vp_nar .boolean s101 else gF z18 34 j := by
            intro j
            rw [e104, gF_upd, y34]
          rw [w34, w33]
          by_cases e : k = v16.toNatClampNeg
          · rw [if_pos (by omega), if_pos (by omega)]
            rcases h101 with q | q
            · exact Or.inl ⟨by rw [q.1]; exact narB0, by omega⟩
            · exact Or.inr ⟨by rw [q.1]; exact narB1, by omega, rfl⟩
          · rw [if_neg (by omega), if_neg (by omega)]; exact done k (by omega)
        exact ⟨fun cw => go 0 (Or.inl ⟨rfl, i_lt rfl hw cw⟩), fun cw => go 1 (Or.inr ⟨rfl, i_nlt rfl hw cw⟩)⟩
  exact LL _ 0 z1 t1 Same.rf (by decide) (by omega) (fun k hk' => absurd hk' (by omega)) (Nat.lt_succ_self _)
abbrev fGm (z : St) (s T : Nat) : Nat → Int → Int → Prop := GT (gF z 27 s).toInt (gF z 30 s).toInt (gF z 29 s).toInt (gF z 32 s).toInt (gF z 4 (gF z 26 s).toNatClampNeg).toInt (fun h => (LD z (gF z 26 s) (nI h) (-1)).toInt) T
abbrev fEm (z : St) (s T : Nat) : Nat → Int := eT (gF z 32 s).toInt (fun h => (PR z (nI h) (gI z 2)).toInt) T
abbrev fGx (z : St) (s T : Nat) : Nat → Int → Int → Prop := GT (gF z 41 s).toInt (gF z 44 s).toInt (gF z 43 s).toInt (gF z 46 s).toInt (gF z 8 (gF z 40 s).toNatClampNeg).toInt (fun h => (Fx z (gF z 40 s).toNatClampNeg h).toInt) T
abbrev fEx (z : St) (s T : Nat) : Nat → Int := eT (gF z 46 s).toInt (fun h => (gF z 5 h).toInt) T
def GFl (nw st : Int) (most : Nat → Int32) (b1 b2 b3 : Int32) : Prop := (1 ≤ b2.toInt ∧ b2.toInt ≤ 48) ∧ nw + b2.toInt ≤ 168 ∧ (0 ≤ b1.toInt ∧ b1.toInt < st) ∧ (0 ≤ b3.toInt ∧ b3.toInt ≤ (most b1.toNatClampNeg).toInt)
set_option maxHeartbeats 1000000 in
theorem v_X9_fill (b1 b2 b3 : Int32) (z : St) (P : Int64 → St → Prop) (ht : TM z) (hrn : RN z) (hWb : ∀ s : Nat, (s : Int) < (gI z 43).toInt → 1 ≤ (gF z 32 s).toInt ∧ (gF z 32 s).toInt ≤ 1000) (hfu : ∀ i : Nat, 0 ≤ (gF z 4 i).toInt ∧ (gF z 4 i).toInt ≤ 20000) (hld : ∀ (hm : Int32) (h : Nat), 0 ≤ hm.toInt → hm.toInt ≤ 3 → h < 168 → 0 ≤ (LD z hm (nI h) (-1)).toInt ∧ (LD z hm (nI h) (-1)).toInt ≤ 100000) (hpr : ∀ h : Nat, h < 168 → -1000 ≤ (PR z (nI h) (gI z 2)).toInt ∧ (PR z (nI h) (gI z 2)).toInt ≤ 10000) (hN : ¬ GFl (gI z 2).toInt (gI z 43).toInt (gF z 27) b1 b2 b3 → ∀ (r : Int64) (z2 : St), TM z2 → Same [0, 1] [] z z2 → P r z2) (hF : GFl (gI z 2).toInt (gI z 43).toInt (gF z 27) b1 b2 b3 → (∀ c, ¬ VR (fGm z b1.toNatClampNeg ((gI z 2).toNatClampNeg + b2.toNatClampNeg - 1)) (fEm z b1.toNatClampNeg ((gI z 2).toNatClampNeg + b2.toNatClampNeg - 1)) (gF z 31 b1.toNatClampNeg).toInt b3.toInt b2.toNatClampNeg (gF z 28 b1.toNatClampNeg).toInt c) → ∀ (r : Int64) (z2 : St), TM z2 → Same [0, 1] [34] z z2 → P r z2) (hS : GFl (gI z 2).toInt (gI z 43).toInt (gF z 27) b1 b2 b3 → (∃ c, VR (fGm z b1.toNatClampNeg ((gI z 2).toNatClampNeg + b2.toNatClampNeg - 1)) (fEm z b1.toNatClampNeg ((gI z 2).toNatClampNeg + b2.toNatClampNeg - 1)) (gF z 31 b1.toNatClampNeg).toInt b3.toInt b2.toNatClampNeg (gF z 28 b1.toNatClampNeg).toInt c) → ∀ (r : Int64) (z2 : St), TM z2 → Same [0, 1, 55] [34, 35, 36] z z2 → gI z2 55 = b2 → FWY (fGm z b1.toNatClampNeg ((gI z 2).toNatClampNeg + b2.toNatClampNeg - 1)) (fEm z b1.toNatClampNeg ((gI z 2).toNatClampNeg + b2.toNatClampNeg - 1)) (gF z 31 b1.toNatClampNeg).toInt b3.toInt (gF z 28 b1.toNatClampNeg).toInt b2.toNatClampNeg (gF z2 35) (gF z2 36) → P r z2) : wp_X9_fill b1 b2 b3 z P := by
  have e01 : (1 : Int32).toInt = 1 := rfl
  have e00 : (0 : Int32).toInt = 0 := rfl
  have f2 : 0 ≤ (gI z 2).toInt ∧ (gI z 2).toInt ≤ 167 := ht.1 2
  have f43 : 0 ≤ (gI z 43).toInt ∧ (gI z 43).toInt ≤ 6 := ht.1 43
  have c2 := clampN f2.1
  unfold wp_X9_fill
  intro z1 e1
  have t1 : TM z1 := by rw [e1]; exact Ty_wI ht trivial
  have s1 : Same [0, 1] [] z z1 := Same.rf.i (by decide) e1
  have y2 : gI z1 2 = gI z 2 := by rw [e1]; rfl
  have y43 : gI z1 43 = gI z 43 := by rw [e1]; rfl
  have y27 : gF z1 27 = gF z 27 := by rw [e1]; rfl
  refine s_X9_in _ _ _ _ _ t1 (fun r3 h3 => ?_)
  have h3' := in9 (p := 1) (q := 48) h3 rfl rfl
  intro K4 hK4
  have bad : ¬ GFl (gI z 2).toInt (gI z 43).toInt (gF z 27) b1 b2 b3 → K4 := fun hb => hK4 (fun z5 e5 => hN hb _ z5 (by rw [e5]; exact Ty_wI t1 trivial) (s1.i (by decide) e5))
  refine ⟨fun c => bad (fun g => ?_), fun c => ?_⟩
  · have := or0 h3' c
    have := g.1
    omega
  have d2 := or1 h3' c
  have cb2 := clampN (x := b2) (by omega)
  rw [y2]
  have ia : (gI z 2 + b2).toInt = (gI z 2).toInt + b2.toInt := a_add rfl rfl (by omega) (by omega)
  refine ⟨fun cc => bad (fun g => ?_), fun cc => ⟨fun cw => bad (fun g => ?_), fun cw => ?_⟩⟩
  · have := i_lt (p := 168) rfl ia cc
    have := g.2.1
    omega
  · have := i_lt (q := 0) rfl rfl cw
    have := g.2.2.2
    omega
  have d3 := i_nlt (p := 168) rfl ia cc
  have d4 := i_nlt (q := 0) rfl rfl cw
  refine s_X9_isStore _ _ _ t1 (fun r10 h10 => ?_)
  rw [y43] at h10
  rw [y27]
  intro K11 hK11
  have h11 : ((0 ≤ b1.toInt ∧ b1.toInt < (gI z 43).toInt) → b3.toInt ≤ (gF z 27 b1.toNatClampNeg).toInt) → K11 := by
    intro hmost
    refine hK11 (s_X9_isStore _ _ _ t1 (fun r13 h13 => ?_))
    rw [y43] at h13
    refine ⟨fun c13 => ?_, fun c13 z107 e107 => hN (fun g => ?_) _ z107 (by rw [e107]; exact Ty_wI t1 trivial) (s1.i (by decide) e107)⟩
    · have d1 := or1 h13 c13
      have cb1 := clampN d1.1
      have gfl : GFl (gI z 2).toInt (gI z 43).toInt (gF z 27) b1 b2 b3 := ⟨d2, d3, d1, d4, hmost d1⟩
      have hF := hF gfl
      have hS := hS gfl
      have f27 : 0 ≤ (gF z 27 b1.toNatClampNeg).toInt ∧ (gF z 27 b1.toNatClampNeg).toInt ≤ 40 := ht.2 27 _
      have f26 : 0 ≤ (gF z 26 b1.toNatClampNeg).toInt ∧ (gF z 26 b1.toNatClampNeg).toInt ≤ 3 := ht.2 26 _
      have f28 : 0 ≤ (gF z 28 b1.toNatClampNeg).toInt ∧ (gF z 28 b1.toNatClampNeg).toInt ≤ 40 := ht.2 28 _
      have c28 := clampN f28.1
      have rn := hrn b1.toNatClampNeg
      have hv1 : vp_in b1 6 := vin rfl d1.1 (by omega)
      refine ⟨hv1, ?_⟩
      intro x15 e15
      have i15 : x15.toInt = (gF z 27 b1.toNatClampNeg).toInt + 1 := by rw [e15]; exact a_add rfl e01 (by omega) (by omega)
      refine fm_0 b2 b3 x15 z1 _ b2.toNatClampNeg (gF z 27 b1.toNatClampNeg).toInt b3.toInt t1 cb2.symm (by omega) i15 f27 rfl (fun z18 t18 s18 tab0 => ?_)
      have s18' : Same [0, 1] [34] z z18 := (Same.tr (z1 := z) Same.rf s1 (by decide) (by decide)).tr s18 (by decide) (by decide)
      have edz : ∀ (zz : St), Same [0, 1] [34] z zz → ∀ h : Nat, h < 168 → (LD zz (gF zz 26 b1.toNatClampNeg) (nI h) (-1)).toInt = (LD z (gF z 26 b1.toNatClampNeg) (nI h) (-1)).toInt := by
        intro zz sz h _
        rw [sz.2 26 (by decide), LD_same sz (by decide) (by decide) (by decide) (by decide) (by decide) (by decide) (by decide)]
      have epz : ∀ (zz : St), Same [0, 1] [34] z zz → ∀ h : Nat, h < 168 → (PR zz (nI h) (gI zz 2)).toInt = (PR z (nI h) (gI z 2)).toInt := by
        intro zz sz h _
        rw [sz.1 2 (by decide), PR_same sz (by decide) (by decide) (by decide) (by decide) (by decide)]
      refine fm_t b1 b2 x15 z18 _ b1.toNatClampNeg (gI z 2).toNatClampNeg b2.toNatClampNeg (gF z 27 b1.toNatClampNeg).toInt (gF z 30 b1.toNatClampNeg).toInt (gF z 29 b1.toNatClampNeg).toInt (gF z 31 b1.toNatClampNeg).toInt (gF z 32 b1.toNatClampNeg).toInt (gF z 4 (gF z 26 b1.toNatClampNeg).toNatClampNeg).toInt b3.toInt (fun h => (LD z (gF z 26 b1.toNatClampNeg) (nI h) (-1)).toInt) (fun h => (PR z (nI h) (gI z 2)).toInt) t18 cb1.symm (by omega) (by rw [s18'.1 2 (by decide)]; exact c2.symm) cb2.symm (by omega) (by omega) (by omega) (by rw [s18'.2 27 (by decide)]) (by rw [s18'.2 30 (by decide)]) (by rw [s18'.2 29 (by decide)]) (by rw [s18'.2 31 (by decide)]) (by rw [s18'.2 32 (by decide)]) (by rw [s18'.2 26 (by decide), s18'.2 4 (by decide)]) (edz z18 s18') (epz z18 s18') (hWb _ (by omega)) (hfu _) (fun h hh => hld _ h f26.1 f26.2 hh) hpr i15 (fun i h1 h2 k hk' => ?_) (fun z22 t22 s22 tab => ?_)
      · have ei : i = b2.toNatClampNeg := by omega
        rw [ei, Nat.sub_self]
        rcases tab0 k hk' with q | q
        · refine Or.inl ⟨q.1, fun c h => ?_⟩
          have : b3.toInt ≤ (k : Int) := h.1
          omega
        · refine Or.inr ⟨q.1, ?_⟩
          rw [q.2.2]
          exact ⟨q.2.1, rfl⟩
      · have s22' : Same [0, 1] [34] z z22 := s18'.tr s22 (by decide) (by decide)
        have r28 : gF z22 28 = gF z 28 := s22'.2 28 (by decide)
        have tb := tab 0 (Nat.le_refl _) (by omega) (gF z 28 b1.toNatClampNeg).toNatClampNeg (by omega)
        rw [c28, Nat.sub_zero, show 41 * 0 + (gF z 28 b1.toNatClampNeg).toNatClampNeg = (gF z 28 b1.toNatClampNeg).toNatClampNeg by omega] at tb
        rw [r28]
        refine ⟨hv1, vin rfl f28.1 (by omega), fun cn => ⟨hv1, ?_⟩, fun cz z66 e66 => ?_⟩
        · have hV : ∃ c, VR (fGm z b1.toNatClampNeg ((gI z 2).toNatClampNeg + b2.toNatClampNeg - 1)) (fEm z b1.toNatClampNeg ((gI z 2).toNatClampNeg + b2.toNatClampNeg - 1)) (gF z 31 b1.toNatClampNeg).toInt b3.toInt b2.toNatClampNeg (gF z 28 b1.toNatClampNeg).toInt c := by
            rcases tb with q | q
            · exact absurd q.1 cn
            · exact ⟨_, q.2⟩
          intro x25 e25
          refine fm_w b1 b2 x25 z22 _ b1.toNatClampNeg (gI z 2).toNatClampNeg b2.toNatClampNeg (gF z 27 b1.toNatClampNeg).toInt (gF z 30 b1.toNatClampNeg).toInt (gF z 29 b1.toNatClampNeg).toInt (gF z 31 b1.toNatClampNeg).toInt (gF z 32 b1.toNatClampNeg).toInt (gF z 4 (gF z 26 b1.toNatClampNeg).toNatClampNeg).toInt b3.toInt (fun h => (LD z (gF z 26 b1.toNatClampNeg) (nI h) (-1)).toInt) (fun h => (PR z (nI h) (gI z 2)).toInt) (gF z 28 b1.toNatClampNeg).toInt t22 cb1.symm (by omega) (by rw [s22'.1 2 (by decide)]; exact c2.symm) cb2.symm (by omega) (by omega) (by omega) (by rw [s22'.2 27 (by decide)]) (by rw [s22'.2 30 (by decide)]) (by rw [s22'.2 29 (by decide)]) (by rw [s22'.2 31 (by decide)]) (by rw [s22'.2 32 (by decide)]) (by rw [s22'.2 26 (by decide), s22'.2 4 (by decide)]) (edz z22 s22') (epz z22 s22') (hWb _ (by omega)) (hfu _) (fun h hh => hld _ h f26.1 f26.2 hh) hpr (by rw [e25]) ⟨f28.1, rn⟩ hV tab (fun z29 t29 s29 fl => ?_)
          intro z31 e31 z32 e32
          have t31 : TM z31 := by rw [e31]; exact Ty_wI t29 (show 0 ≤ b2.toInt ∧ b2.toInt ≤ 48 by omega)
          have t32 : TM z32 := by rw [e32]; exact Ty_wI t31 trivial
          have s32 : Same [0, 1, 55] [34, 35, 36] z z32 := (((Same.tr (z1 := z) Same.rf s22' (by decide) (by decide)).tr s29 (by decide) (by decide)).i (by decide) e31).i (by decide) e32
          have r28' : gF z32 28 = gF z 28 := s32.2 28 (by decide)
          refine ⟨hv1, by rw [r28']; exact vin rfl f28.1 (by omega), hS hV _ z32 t32 s32 ?_ ?_⟩
          · rw [e32]
            show gI z31 55 = _
            rw [e31]; rfl
          · rw [e32, e31]; exact fl
        · refine hF (fun c h => ?_) _ z66 (by rw [e66]; exact Ty_wI t22 trivial) (s22'.i (by decide) e66)
          rcases tb with q | q
          · exact q.2 c h
          · exact q.1 cz
    · have := or0 h13 c13
      have := g.2.2.1
      omega
  refine ⟨fun c10 => h11 (fun q => ?_), fun c10 => ?_⟩
  · have := or0 h10 c10
    omega
  · have d1 := or1 h10 c10
    refine ⟨vin rfl d1.1 (by omega), fun cm => h11 (fun _ => i_le rfl rfl cm), fun cm => bad (fun g => ?_)⟩
    have := i_nle rfl rfl cm
    have := g.2.2.2
    omega
set_option maxHeartbeats 1000000 in
theorem v_X8_fill (b1 b2 b3 : Int32) (z : St) (P : Int64 → St → Prop) (ht : TX z) (hlm : ∀ s : Nat, (gF z 42 s).toInt ≤ (gF z 41 s).toInt) (hWb : ∀ s : Nat, (s : Int) < (gI z 3909).toInt → 1 ≤ (gF z 46 s).toInt ∧ (gF z 46 s).toInt ≤ 1000) (hfu : ∀ i : Nat, 0 ≤ (gF z 8 i).toInt ∧ (gF z 8 i).toInt ≤ 20000) (hld : ∀ hm h : Nat, hm < 4 → h < 168 → 0 ≤ (Fx z hm h).toInt ∧ (Fx z hm h).toInt ≤ 100000) (hpr : ∀ h : Nat, h < 168 → -1000 ≤ (gF z 5 h).toInt ∧ (gF z 5 h).toInt ≤ 10000) (hN : ¬ GFl (gI z 2104).toInt (gI z 3909).toInt (gF z 41) b1 b2 b3 → ∀ (r : Int64) (z2 : St), TX z2 → Same [8] [] z z2 → P r z2) (hF : GFl (gI z 2104).toInt (gI z 3909).toInt (gF z 41) b1 b2 b3 → (∀ c, ¬ VR (fGx z b1.toNatClampNeg ((gI z 2104).toNatClampNeg + b2.toNatClampNeg - 1)) (fEx z b1.toNatClampNeg ((gI z 2104).toNatClampNeg + b2.toNatClampNeg - 1)) (gF z 45 b1.toNatClampNeg).toInt b3.toInt b2.toNatClampNeg (gF z 42 b1.toNatClampNeg).toInt c) → ∀ (r : Int64) (z2 : St), TX z2 → Same [8] [49] z z2 → P r z2) (hS : GFl (gI z 2104).toInt (gI z 3909).toInt (gF z 41) b1 b2 b3 → (∃ c, VR (fGx z b1.toNatClampNeg ((gI z 2104).toNatClampNeg + b2.toNatClampNeg - 1)) (fEx z b1.toNatClampNeg ((gI z 2104).toNatClampNeg + b2.toNatClampNeg - 1)) (gF z 45 b1.toNatClampNeg).toInt b3.toInt b2.toNatClampNeg (gF z 42 b1.toNatClampNeg).toInt c) → ∀ (r : Int64) (z2 : St), TX z2 → Same [8, 3915] [49, 50, 51] z z2 → gI z2 3915 = b2 → FWY (fGx z b1.toNatClampNeg ((gI z 2104).toNatClampNeg + b2.toNatClampNeg - 1)) (fEx z b1.toNatClampNeg ((gI z 2104).toNatClampNeg + b2.toNatClampNeg - 1)) (gF z 45 b1.toNatClampNeg).toInt b3.toInt (gF z 42 b1.toNatClampNeg).toInt b2.toNatClampNeg (gF z2 50) (gF z2 51) → P r z2) : wp_X8_fill b1 b2 b3 z P := by
  have f2 : 0 ≤ (gI z 2104).toInt ∧ (gI z 2104).toInt ≤ 167 := ht.1 2104
  have f9 : 0 ≤ (gI z 3909).toInt ∧ (gI z 3909).toInt ≤ 6 := ht.1 3909
  have c2 := clampN f2.1
  have far : (1000000000000000000 : Int64).toInt = 1000000000000000000 := rfl
  unfold wp_X8_fill
  intro K1 hK1
  have bad : ¬ GFl (gI z 2104).toInt (gI z 3909).toInt (gF z 41) b1 b2 b3 → K1 := fun hb => hK1 (s_X8_refuse _ _ _ ht (fun r z2 t2 s2 _ => hN hb _ z2 t2 s2))
  refine ⟨fun c => bad (fun g => ?_), fun c => ⟨fun cc => bad (fun g => ?_), fun cc => ?_⟩⟩
  · have := i_lt (q := 1) rfl rfl c
    have := g.1
    omega
  · have := i_lt (p := 48) rfl rfl cc
    have := g.1
    omega
  have d1 := i_nlt (q := 1) rfl rfl c
  have d2 := i_nlt (p := 48) rfl rfl cc
  have cb2 := clampN (x := b2) (by omega)
  have ia : (gI z 2104 + b2).toInt = (gI z 2104).toInt + b2.toInt := a_add rfl rfl (by omega) (by omega)
  refine ⟨fun c3 => bad (fun g => ?_), fun c3 => ?_⟩
  · have := i_lt (p := 168) rfl ia c3
    have := g.2.1
    omega
  have d3 := i_nlt (p := 168) rfl ia c3
  unfold wp_X7_mostOf
  -- whether there is such a store
  have rest : ∀ r8 : Int32, ((0 ≤ b1.toInt ∧ b1.toInt < (gI z 3909).toInt) → r8 = gF z 41 b1.toNatClampNeg) → wp_X8_isWithin b3 r8 z (fun r10 => (((¬ r10 = 0) → (wp_X7_has b1 z (fun r13 => (((¬ r13 = 0) → (wp_X7_cheapest b1 (gI z 2104) b2 b3 z (fun r16 z15 => (((¬ (lg_cmp r16 ((1000000000000000000 : Int64))) = 0) → (wp_X7_keep b1 b2 z15 (fun z18 => (wp_X8_accept ((0 : Int32)) z18 (fun r21 z20 => P r16 z20))))) ∧ ((lg_cmp r16 ((1000000000000000000 : Int64))) = 0 → (wp_X8_refuse ((-6 : Int32)) z15 (fun r23 z22 => P (((-4000000000000000000 : Int64)) + (Int32.toInt64 r23)) z22))))))) ∧ (r13 = 0 → (wp_X8_refuse ((-2 : Int32)) z (fun r25 z24 => P (((-4000000000000000000 : Int64)) + (Int32.toInt64 r25)) z24))))))) ∧ (r10 = 0 → K1))) := by
    intro r8 h8
    refine s_X8_isWithin _ _ _ _ ht (fun r10 h10 => ⟨fun c10 => ?_, fun c10 => bad (fun g => ?_)⟩)
    · have w := or1 h10 c10
      refine s_X7_has _ _ _ ht (fun r13 h13 => ⟨fun c13 => ?_, fun c13 => s_X8_refuse _ _ _ ht (fun r z2 t2 s2 _ => hN (fun g => ?_) _ z2 t2 s2)⟩)
      · have e1 := or1 h13 c13
        have cb1 := clampN e1.1
        rw [h8 e1] at w
        have gfl : GFl (gI z 2104).toInt (gI z 3909).toInt (gF z 41) b1 b2 b3 := ⟨⟨d1, d2⟩, d3, e1, w⟩
        have hF := hF gfl
        have hS := hS gfl
        have f40 : 0 ≤ (gF z 40 b1.toNatClampNeg).toInt ∧ (gF z 40 b1.toNatClampNeg).toInt ≤ 3 := ht.2 40 _
        have c40 := clampN f40.1
        refine v_X7_cheapest b1 (gI z 2104) b2 b3 z _ b1.toNatClampNeg (gI z 2104).toNatClampNeg b2.toNatClampNeg (gF z 41 b1.toNatClampNeg).toInt (gF z 44 b1.toNatClampNeg).toInt (gF z 43 b1.toNatClampNeg).toInt (gF z 45 b1.toNatClampNeg).toInt (gF z 46 b1.toNatClampNeg).toInt (gF z 8 (gF z 40 b1.toNatClampNeg).toNatClampNeg).toInt b3.toInt (gF z 42 b1.toNatClampNeg).toInt (fun h => (Fx z (gF z 40 b1.toNatClampNeg).toNatClampNeg h).toInt) (fun h => (gF z 5 h).toInt) ht cb1.symm (by omega) c2.symm cb2.symm (by omega) (by omega) (by omega) rfl rfl rfl rfl rfl rfl rfl rfl (hlm _) (fun _ _ => rfl) (fun _ _ => rfl) (hWb _ (by omega)) (hfu _) (fun h hh => hld _ h (by omega) hh) hpr (fun r16 z15 t15 s15 res ch => ?_)
        refine ⟨fun cf => ?_, fun cf => ?_⟩
        · have hV : VR (fGx z b1.toNatClampNeg ((gI z 2104).toNatClampNeg + b2.toNatClampNeg - 1)) (fEx z b1.toNatClampNeg ((gI z 2104).toNatClampNeg + b2.toNatClampNeg - 1)) (gF z 45 b1.toNatClampNeg).toInt b3.toInt b2.toNatClampNeg (gF z 42 b1.toNatClampNeg).toInt r16.toInt := by
            rcases res with q | q
            · exact absurd (lgc0.mpr (by rw [q.1])) cf
            · exact q
          refine v_X7_keep b1 b2 z15 _ b1.toNatClampNeg b2.toNatClampNeg (gF z 41 b1.toNatClampNeg).toInt (gF z 45 b1.toNatClampNeg).toInt b3.toInt (gF z 42 b1.toNatClampNeg).toInt (fGx z b1.toNatClampNeg ((gI z 2104).toNatClampNeg + b2.toNatClampNeg - 1)) (fEx z b1.toNatClampNeg ((gI z 2104).toNatClampNeg + b2.toNatClampNeg - 1)) t15 cb1.symm (by omega) cb2.symm (by omega) (by rw [s15.2 41 (by decide)]) (by rw [s15.2 45 (by decide)]) (by rw [s15.2 42 (by decide)]) (hlm _) (fun d l x h => h.2.1) ⟨_, hV⟩ ch (fun z18 t18 s18 n18 fl => ?_)
          have s18' : Same [8, 3915] [49, 50, 51] z z18 := (Same.tr (z1 := z) Same.rf s15 (by decide) (by decide)).tr s18 (by decide) (by decide)
          refine s_X8_accept _ _ _ t18 (fun r z3 t3 s3 _ => hS ⟨_, hV⟩ _ z3 t3 (s18'.tr s3 (by decide) (by decide)) ?_ ?_)
          · rw [s3.1 3915 (by decide)]; exact n18
          · rw [s3.2 50 (by decide), s3.2 51 (by decide)]; exact fl
        · have ef : r16.toInt = 1000000000000000000 := lgc0.mp cf
          refine s_X8_refuse _ _ _ t15 (fun r z3 t3 s3 _ => hF (fun c h => ?_) _ z3 t3 ((Same.tr (z1 := z) Same.rf s15 (by decide) (by decide)).tr s3 (by decide) (by decide)))
          rcases res with q | q
          · exact q.2 c h
          · have f43 : 0 ≤ (gF z 43 b1.toNatClampNeg).toInt ∧ (gF z 43 b1.toNatClampNeg).toInt ≤ 10 := ht.2 43 _
            have f44 : 0 ≤ (gF z 44 b1.toNatClampNeg).toInt ∧ (gF z 44 b1.toNatClampNeg).toInt ≤ 10 := ht.2 44 _
            have := VR_bd (GT_10 f44 f43) (eT_bd (hWb _ (by omega)) (fun h hh => hpr h (by omega))) b2.toNatClampNeg _ _ q
            omega
      · have := or0 h13 c13
        have := g.2.2.1
        omega
    · have w := or0 h10 c10
      have g1 := g.2.2.1
      have g2 := g.2.2.2
      rw [h8 g1] at w
      omega
  refine s_X7_has _ _ _ ht (fun r2 h2 => ⟨fun ch => rest 40 (fun q => ?_), fun ch => ⟨vin rfl (or1 h2 ch).1 (by have := or1 h2 ch; omega), rest _ (fun _ => rfl)⟩⟩)
  have := or0 h2 ch
  omega
def FDf (n : Int) (mv lf : Nat → Int32) (b1 b2 : Int32) : Int32 := if 0 ≤ b1.toInt ∧ b1.toInt < n then (if b2 = 0 then mv b1.toNatClampNeg else if b2 = 1 then lf b1.toNatClampNeg else -1000) else -1000
theorem v_X8_filled (b1 b2 : Int32) (z : St) (P : Int32 → Prop) (ht : TX z) (hk : P (FDf (gI z 3915).toInt (gF z 50) (gF z 51) b1 b2)) : wp_X8_filled b1 b2 z P := by
  have f : 0 ≤ (gI z 3915).toInt ∧ (gI z 3915).toInt ≤ 48 := ht.1 3915
  unfold FDf at hk
  unfold wp_X8_filled
  refine ⟨fun c => ?_, fun c => ⟨fun cn => ⟨fun c0 => ⟨fun c1 => ?_, fun c1 => ?_⟩, fun c0 => ?_⟩, fun cn => ?_⟩⟩
  · have := i_lt (q := 0) rfl rfl c
    rw [if_neg (by omega)] at hk; exact hk
  · have a := i_nlt (q := 0) rfl rfl c
    have b := i_lt rfl rfl cn
    rw [if_pos ⟨a, b⟩, if_neg c0, if_neg c1] at hk; exact hk
  · have a := i_nlt (q := 0) rfl rfl c
    have b := i_lt rfl rfl cn
    rw [if_pos ⟨a, b⟩, if_neg c0, if_pos c1] at hk
    exact ⟨vin rfl a (by omega), hk⟩
  · have a := i_nlt (q := 0) rfl rfl c
    have b := i_lt rfl rfl cn
    rw [if_pos ⟨a, b⟩, if_pos c0] at hk
    exact ⟨vin rfl a (by omega), hk⟩
  · have b := i_nlt rfl rfl cn
    rw [if_neg (by omega)] at hk; exact hk
theorem v_X9_filled (b1 b2 : Int32) (z : St) (P : Int32 → St → Prop) (ht : TM z) (hk : ∀ z2 : St, TM z2 → Same [0, 1] [] z z2 → P (FDf (gI z 55).toInt (gF z 35) (gF z 36) b1 b2) z2) : wp_X9_filled b1 b2 z P := by
  have f : 0 ≤ (gI z 55).toInt ∧ (gI z 55).toInt ≤ 48 := ht.1 55
  unfold wp_X9_filled
  intro z1 e1
  have t1 : TM z1 := by rw [e1]; exact Ty_wI ht trivial
  have hk := hk z1 t1 (Same.rf.i (by decide) e1)
  have y55 : gI z1 55 = gI z 55 := by rw [e1]; rfl
  have y35 : gF z1 35 = gF z 35 := by rw [e1]; rfl
  have y36 : gF z1 36 = gF z 36 := by rw [e1]; rfl
  unfold FDf at hk
  rw [y55, y35, y36]
  refine s_X9_in _ _ _ _ _ t1 (fun r3 h3 => ?_)
  have eh : (Int32.toInt64 (gI z 55) - (1 : Int64)).toInt = (gI z 55).toInt - 1 := a_subL (a_wide rfl) (show (1 : Int64).toInt = 1 from rfl) (by omega) (by omega)
  have h3' := in9 (p := 0) h3 rfl eh
  refine ⟨fun c => ?_, fun c => ?_⟩
  · have q := or1 h3' c
    rw [if_pos (by omega)] at hk
    refine ⟨fun c0 => ⟨fun c1 => ?_, fun c1 => ?_⟩, fun c0 => ?_⟩
    · rw [if_neg c0, if_neg c1] at hk; exact hk
    · rw [if_neg c0, if_pos c1] at hk
      exact ⟨vin rfl q.1 (by omega), hk⟩
    · rw [if_pos c0] at hk
      exact ⟨vin rfl q.1 (by omega), hk⟩
  · have q := or0 h3' c
    rw [if_neg (by omega)] at hk; exact hk
def GV (st : Int) (most : Nat → Int32) (b1 b2 : Int32) : Prop := (0 ≤ b1.toInt ∧ b1.toInt < st) ∧ (0 ≤ b2.toInt ∧ b2.toInt ≤ (most b1.toNatClampNeg).toInt)
theorem v_X8_level (b1 b2 : Int32) (z : St) (P : Int32 → St → Prop) (ht : TX z) (hR : ¬ GV (gI z 3909).toInt (gF z 41) b1 b2 → ∀ (r : Int32) (z2 : St), TX z2 → Same [8] [] z z2 → P r z2) (hS : GV (gI z 3909).toInt (gF z 41) b1 b2 → ∀ (r : Int32) (z2 : St), TX z2 → Same [8] [42] z z2 → gF z2 42 = upd (gF z 42) b1.toNatClampNeg b2 → P r z2) : wp_X8_level b1 b2 z P := by
  have f9 : 0 ≤ (gI z 3909).toInt ∧ (gI z 3909).toInt ≤ 6 := ht.1 3909
  unfold wp_X8_level wp_X7_mostOf
  have rest : ∀ r2 : Int32, ((0 ≤ b1.toInt ∧ b1.toInt < (gI z 3909).toInt) → r2 = gF z 41 b1.toNatClampNeg) → wp_X8_isWithin b2 r2 z (fun r4 => (((¬ r4 = 0) → (wp_X7_has b1 z (fun r7 => (((¬ r7 = 0) → (vp_in b1 6 ∧ (∀ x9 : Int32, x9 = gF z 42 b1.toNatClampNeg → (vp_in b1 6 ∧ (∀ z10 : St, z10 = wR z 42 (upd (gF z 42) b1.toNatClampNeg b2) → (wp_X8_accept x9 z10 (fun r12 z11 => P r12 z11))))))) ∧ (r7 = 0 → (wp_X8_refuse ((-2 : Int32)) z (fun r14 z13 => P r14 z13))))))) ∧ (r4 = 0 → (wp_X8_refuse ((-1 : Int32)) z (fun r16 z15 => P r16 z15))))) := by
    intro r2 h2
    refine s_X8_isWithin _ _ _ _ ht (fun r4 h4 => ⟨fun c4 => ?_, fun c4 => rf8 _ ht (hR (fun g => ?_))⟩)
    · have w := or1 h4 c4
      refine s_X7_has _ _ _ ht (fun r7 h7 => ⟨fun c7 => ?_, fun c7 => rf8 _ ht (hR (fun g => ?_))⟩)
      · have e1 := or1 h7 c7
        rw [h2 e1] at w
        have f41 : 0 ≤ (gF z 41 b1.toNatClampNeg).toInt ∧ (gF z 41 b1.toNatClampNeg).toInt ≤ 40 := ht.2 41 _
        have hv : vp_in b1 6 := vin rfl e1.1 (by omega)
        refine ⟨hv, ?_⟩
        intro x9 _
        refine ⟨hv, ?_⟩
        intro z10 e10
        have t10 : TX z10 := by rw [e10]; exact Ty_wR ht (show 0 ≤ b2.toInt ∧ b2.toInt ≤ 40 by omega)
        refine s_X8_accept _ _ _ t10 (fun r z3 t3 s3 _ => hS ⟨e1, w⟩ r z3 t3 ((Same.rf.r (by decide) e10).tr s3 (by decide) (by decide)) ?_)
        rw [s3.2 42 (by decide), e10, gF_wR]
      · have := or0 h7 c7
        have := g.1
        omega
    · have w := or0 h4 c4
      have g1 := g.1
      have g2 := g.2
      rw [h2 g1] at w
      omega
  refine s_X7_has _ _ _ ht (fun r2 h2 => ⟨fun ch => rest 40 (fun q => ?_), fun ch => ⟨vin rfl (or1 h2 ch).1 (by have := or1 h2 ch; omega), rest _ (fun _ => rfl)⟩⟩)
  have := or0 h2 ch
  omega
theorem v_X9_level (b1 b2 : Int32) (z : St) (P : Int32 → St → Prop) (ht : TM z) (hR : ¬ GV (gI z 43).toInt (gF z 27) b1 b2 → ∀ (r : Int32) (z2 : St), TM z2 → Same [0, 1] [] z z2 → P r z2) (hS : GV (gI z 43).toInt (gF z 27) b1 b2 → ∀ (r : Int32) (z2 : St), TM z2 → Same [0, 1] [28] z z2 → gF z2 28 = upd (gF z 28) b1.toNatClampNeg b2 → P r z2) : wp_X9_level b1 b2 z P := by
  have f43 : 0 ≤ (gI z 43).toInt ∧ (gI z 43).toInt ≤ 6 := ht.1 43
  unfold wp_X9_level
  intro z1 e1
  have t1 : TM z1 := by rw [e1]; exact Ty_wI ht trivial
  have s1 : Same [0, 1] [] z z1 := Same.rf.i (by decide) e1
  have y43 : gI z1 43 = gI z 43 := by rw [e1]; rfl
  have y27 : gF z1 27 = gF z 27 := by rw [e1]; rfl
  refine ⟨fun c => ?_, fun c => rf9 _ t1 s1 (hR (fun g => ?_))⟩
  · have d := i_le (p := 0) rfl rfl c
    refine s_X9_isStore _ _ _ t1 (fun r4 h4 => ?_)
    rw [y43] at h4
    rw [y27]
    refine ⟨fun c4 => ?_, fun c4 => rf9 _ t1 s1 (hR (fun g => ?_))⟩
    · have d1 := or1 h4 c4
      have f27 : 0 ≤ (gF z 27 b1.toNatClampNeg).toInt ∧ (gF z 27 b1.toNatClampNeg).toInt ≤ 40 := ht.2 27 _
      have hv : vp_in b1 6 := vin rfl d1.1 (by omega)
      refine ⟨hv, fun cm => ⟨hv, ?_⟩, fun cm => rf9 _ t1 s1 (hR (fun g => ?_))⟩
      · have m := i_le rfl rfl cm
        intro x7 _
        refine ⟨hv, ?_⟩
        intro z8 e8
        have t8 : TM z8 := by rw [e8]; exact Ty_wR t1 (show 0 ≤ b2.toInt ∧ b2.toInt ≤ 40 by omega)
        have s8 : Same [0, 1] [28] z z8 := (Same.tr (z1 := z) Same.rf s1 (by decide) (by decide)).r (by decide) e8
        refine s_X9_told _ _ _ t8 (fun r z3 t3 s3 _ => hS ⟨d1, d, m⟩ r z3 t3 (s8.tr s3 (by decide) (by decide)) ?_)
        rw [s3.2 28 (by decide), e8, gF_wR, e1]; rfl
      · have := i_nle rfl rfl cm
        have := g.2
        omega
    · have := or0 h4 c4
      have := g.1
      omega
  · have := i_nle (p := 0) rfl rfl c
    have := g.2
    omega
def GS7 (h n : Int) (b1 b2 b3 b4 b5 b6 b7 : Int32) : Prop := (1 ≤ b2.toInt ∧ b2.toInt ≤ 40) ∧ (0 ≤ b3.toInt ∧ b3.toInt ≤ b2.toInt) ∧ (0 ≤ b4.toInt ∧ b4.toInt ≤ 10) ∧ (0 ≤ b5.toInt ∧ b5.toInt ≤ 10) ∧ (0 ≤ b6.toInt ∧ b6.toInt ≤ 3) ∧ (1 ≤ b7.toInt ∧ b7.toInt ≤ 1000) ∧ (0 ≤ b1.toInt ∧ b1.toInt < h) ∧ n < 6
set_option maxHeartbeats 1000000 in
theorem v_X8_store (b1 b2 b3 b4 b5 b6 b7 : Int32) (z : St) (P : Int32 → St → Prop) (ht : TX z) (hR : ¬ GS7 (gI z 705).toInt (gI z 3909).toInt b1 b2 b3 b4 b5 b6 b7 → ∀ (r : Int32) (z2 : St), TX z2 → Same [8] [] z z2 → P r z2) (hS : GS7 (gI z 705).toInt (gI z 3909).toInt b1 b2 b3 b4 b5 b6 b7 → ∀ (r : Int32) (z2 : St), TX z2 → Same [8, 3909] [40, 41, 42, 43, 44, 45, 46] z z2 → gI z2 3909 = gI z 3909 + 1 → gF z2 40 = upd (gF z 40) (gI z 3909).toNatClampNeg b1 → gF z2 41 = upd (gF z 41) (gI z 3909).toNatClampNeg b2 → gF z2 42 = upd (gF z 42) (gI z 3909).toNatClampNeg b3 → gF z2 43 = upd (gF z 43) (gI z 3909).toNatClampNeg b4 → gF z2 44 = upd (gF z 44) (gI z 3909).toNatClampNeg b5 → gF z2 45 = upd (gF z 45) (gI z 3909).toNatClampNeg b6 → gF z2 46 = upd (gF z 46) (gI z 3909).toNatClampNeg b7 → P r z2) : wp_X8_store b1 b2 b3 b4 b5 b6 b7 z P := by
  have f : 0 ≤ (gI z 3909).toInt ∧ (gI z 3909).toInt ≤ 6 := ht.1 3909
  have f7 : 0 ≤ (gI z 705).toInt ∧ (gI z 705).toInt ≤ 4 := ht.1 705
  have cf := clampN f.1
  have e10 : (10 : Int32).toInt = 10 := rfl
  have e3 : (3 : Int32).toInt = 3 := rfl
  have bad0 : ∀ v : Int32, ¬ GS7 (gI z 705).toInt (gI z 3909).toInt b1 b2 b3 b4 b5 b6 b7 → wp_X8_refuse v z (fun r z2 => P r z2) := fun v hb => rf8 _ ht (hR hb)
  unfold wp_X8_store
  intro K1 hK1
  have bad : ¬ GS7 (gI z 705).toInt (gI z 3909).toInt b1 b2 b3 b4 b5 b6 b7 → K1 := fun hb => hK1 (bad0 _ hb)
  refine ⟨fun c => bad (fun g => ?_), fun c => ⟨fun cc => bad (fun g => ?_), fun cc => ?_⟩⟩
  · have := i_lt (q := 1) rfl rfl c
    have := g.1
    omega
  · have := i_lt (p := 40) rfl rfl cc
    have := g.1
    omega
  have q2a := i_nlt (q := 1) rfl rfl c
  have q2b := i_nlt (p := 40) rfl rfl cc
  refine s_X8_isWithin _ _ _ _ ht (fun r7 h7 => ⟨fun c7 => bad (fun g => ?_), fun c7 => ?_⟩)
  · have := or0 h7 c7
    have := g.2.1
    omega
  have q3 := or1 h7 c7
  refine ⟨fun c8 => bad (fun g => ?_), fun c8 => ⟨fun c9 => ?_, fun c9 => bad (fun g => ?_)⟩⟩
  · have := i_lt (q := 1) rfl rfl c8
    have := g.2.2.2.2.2.1
    omega
  · have q7a := i_nlt (q := 1) rfl rfl c8
    have q7b := i_le (q := 1000) rfl rfl c9
    refine s_X8_isWithin _ _ _ _ ht (fun r12 h12 => ?_)
    rw [e10] at h12
    intro K13 hK13
    have bad2 : ¬ GS7 (gI z 705).toInt (gI z 3909).toInt b1 b2 b3 b4 b5 b6 b7 → K13 := fun hb => hK13 (bad0 _ hb)
    refine ⟨fun c12 => bad2 (fun g => ?_), fun c12 => ?_⟩
    · have := or0 h12 c12
      have := g.2.2.1
      omega
    have q4 := or1 h12 c12
    refine s_X8_isWithin _ _ _ _ ht (fun r18 h18 => ?_)
    rw [e10] at h18
    refine ⟨fun c18 => bad2 (fun g => ?_), fun c18 => ?_⟩
    · have := or0 h18 c18
      have := g.2.2.2.1
      omega
    have q5 := or1 h18 c18
    refine s_X8_isWithin _ _ _ _ ht (fun r21 h21 => ?_)
    rw [e3] at h21
    refine ⟨fun c21 => ?_, fun c21 => bad2 (fun g => ?_)⟩
    · have q6 := or1 h21 c21
      refine s_X0_has _ _ _ ht (fun r24 h24 => ⟨fun c24 => ⟨fun cl => ?_, fun cl => bad0 _ (fun g => ?_)⟩, fun c24 => bad0 _ (fun g => ?_)⟩)
      · have q1 := or1 h24 c24
        have cl' : (gI z 3909).toInt < 6 := i_lt rfl rfl cl
        have hv : vp_in (gI z 3909) 6 := vin rfl f.1 (by omega)
        unfold wp_X7_add
        refine ⟨hv, ?_⟩
        intro z1 e1
        have y1 : gI z1 3909 = gI z 3909 := by rw [e1]; rfl
        rw [y1]
        refine ⟨hv, ?_⟩
        intro z2 e2
        have y2 : gI z2 3909 = gI z 3909 := by rw [e2]; exact y1
        rw [y2]
        refine ⟨hv, ?_⟩
        intro z3 e3' z4 e4
        have y3 : gI z3 3909 = gI z 3909 := by rw [e3']; exact y2
        rw [y3] at e4
        have t1 : TX z1 := by rw [e1]; exact Ty_wR ht (show 0 ≤ b1.toInt ∧ b1.toInt ≤ 3 by omega)
        have t2 : TX z2 := by rw [e2]; exact Ty_wR t1 (show 0 ≤ b2.toInt ∧ b2.toInt ≤ 40 by omega)
        have t3 : TX z3 := by rw [e3']; exact Ty_wR t2 (show 0 ≤ b3.toInt ∧ b3.toInt ≤ 40 by omega)
        have i4 : (gI z 3909 + (1 : Int32)).toInt = (gI z 3909).toInt + 1 := a_add rfl rfl (by omega) (by omega)
        have t4 : TX z4 := by rw [e4]; exact Ty_wI t3 (show 0 ≤ (gI z 3909 + (1 : Int32)).toInt ∧ (gI z 3909 + (1 : Int32)).toInt ≤ 6 by omega)
        have n4 : gI z4 3909 = gI z 3909 + 1 := by rw [e4]; rfl
        have er : gI z4 3909 - 1 = gI z 3909 := by
          rw [n4]
          refine toI_inj ?_
          rw [a_sub i4 (show (1 : Int32).toInt = 1 from rfl) (by omega) (by omega)]
          omega
        rw [er]
        unfold wp_X7_setFlow
        refine ⟨hv, ?_⟩
        intro z5 e5
        refine ⟨hv, ?_⟩
        intro z6 e6
        refine ⟨hv, ?_⟩
        intro z7 e7
        refine ⟨hv, ?_⟩
        intro z8 e8
        have t5 : TX z5 := by rw [e5]; exact Ty_wR t4 q4
        have t6 : TX z6 := by rw [e6]; exact Ty_wR t5 q5
        have t7 : TX z7 := by rw [e7]; exact Ty_wR t6 q6
        have t8 : TX z8 := by rw [e8]; exact Ty_wR t7 trivial
        have s8 : Same [8, 3909] [40, 41, 42, 43, 44, 45, 46] z z8 := (((((((Same.rf.r (by decide) e1).r (by decide) e2).r (by decide) e3').i (by decide) e4).r (by decide) e5).r (by decide) e6).r (by decide) e7).r (by decide) e8
        refine s_X8_accept _ _ _ t8 (fun r zz tz sz _ => hS ⟨⟨q2a, q2b⟩, q3, q4, q5, q6, ⟨q7a, q7b⟩, q1, cl'⟩ r zz tz (s8.tr sz (by decide) (by decide)) ?_ ?_ ?_ ?_ ?_ ?_ ?_ ?_)
        · rw [sz.1 3909 (by decide), e8, e7, e6, e5]; exact n4
        · rw [sz.2 40 (by decide), e8, e7, e6, e5, e4, e3', e2]; show gF z1 40 = _; rw [e1, gF_wR]
        · rw [sz.2 41 (by decide), e8, e7, e6, e5, e4, e3']; show gF z2 41 = _; rw [e2, gF_wR, e1]; rfl
        · rw [sz.2 42 (by decide), e8, e7, e6, e5, e4]; show gF z3 42 = _; rw [e3', gF_wR, e2, e1]; rfl
        · rw [sz.2 43 (by decide), e8, e7, e6]; show gF z5 43 = _; rw [e5, gF_wR, e4, e3', e2, e1]; rfl
        · rw [sz.2 44 (by decide), e8, e7]; show gF z6 44 = _; rw [e6, gF_wR, e5, e4, e3', e2, e1]; rfl
        · rw [sz.2 45 (by decide), e8]; show gF z7 45 = _; rw [e7, gF_wR, e6, e5, e4, e3', e2, e1]; rfl
        · rw [sz.2 46 (by decide), e8, gF_wR, e7, e6, e5, e4, e3', e2, e1]; rfl
      · have cl' : 6 ≤ (gI z 3909).toInt := i_nlt rfl rfl cl
        have := g.2.2.2.2.2.2.2
        omega
      · have := or0 h24 c24
        have := g.2.2.2.2.2.2.1
        omega
    · have := or0 h21 c21
      have := g.2.2.2.2.1
      omega
  · have := i_nle (q := 1000) rfl rfl c9
    have := g.2.2.2.2.2.1
    omega
set_option maxHeartbeats 1000000 in
theorem v_X9_store (b1 b2 b3 b4 b5 b6 b7 : Int32) (z : St) (P : Int32 → St → Prop) (ht : TM z) (hR : ¬ GS7 (gI z 8).toInt (gI z 43).toInt b1 b2 b3 b4 b5 b6 b7 → ∀ (r : Int32) (z2 : St), TM z2 → Same [0, 1] [] z z2 → P r z2) (hS : GS7 (gI z 8).toInt (gI z 43).toInt b1 b2 b3 b4 b5 b6 b7 → ∀ (r : Int32) (z2 : St), TM z2 → Same [0, 1, 43] [26, 27, 28, 29, 30, 31, 32] z z2 → gI z2 43 = gI z 43 + 1 → gF z2 26 = upd (gF z 26) (gI z 43).toNatClampNeg b1 → gF z2 27 = upd (gF z 27) (gI z 43).toNatClampNeg b2 → gF z2 28 = upd (gF z 28) (gI z 43).toNatClampNeg b3 → gF z2 29 = upd (gF z 29) (gI z 43).toNatClampNeg b4 → gF z2 30 = upd (gF z 30) (gI z 43).toNatClampNeg b5 → gF z2 31 = upd (gF z 31) (gI z 43).toNatClampNeg b6 → gF z2 32 = upd (gF z 32) (gI z 43).toNatClampNeg b7 → P r z2) : wp_X9_store b1 b2 b3 b4 b5 b6 b7 z P := by
  have f : 0 ≤ (gI z 43).toInt ∧ (gI z 43).toInt ≤ 6 := ht.1 43
  have f8 : 0 ≤ (gI z 8).toInt ∧ (gI z 8).toInt ≤ 4 := ht.1 8
  have cf := clampN f.1
  unfold wp_X9_store
  intro z1 e1
  have t1 : TM z1 := by rw [e1]; exact Ty_wI ht trivial
  have s1 : Same [0, 1] [] z z1 := Same.rf.i (by decide) e1
  have y43 : gI z1 43 = gI z 43 := by rw [e1]; rfl
  have y8 : gI z1 8 = gI z 8 := by rw [e1]; rfl
  have bad0 : ∀ v : Int32, ¬ GS7 (gI z 8).toInt (gI z 43).toInt b1 b2 b3 b4 b5 b6 b7 → wp_X9_told v z1 (fun r z2 => P r z2) := fun v hb => rf9 _ t1 s1 (hR hb)
  refine s_X9_in _ _ _ _ _ t1 (fun r3 h3 => ?_)
  have h3' := in9 (p := 1) (q := 40) h3 rfl rfl
  intro K4 hK4
  have bad : ¬ GS7 (gI z 8).toInt (gI z 43).toInt b1 b2 b3 b4 b5 b6 b7 → K4 := fun hb => hK4 (bad0 _ hb)
  refine ⟨fun c => bad (fun g => ?_), fun c => ?_⟩
  · have := or0 h3' c
    have := g.1
    omega
  have q2 := or1 h3' c
  refine s_X9_in _ _ _ _ _ t1 (fun r9 h9 => ?_)
  have h9' := in9 (p := 0) h9 rfl (a_wide (x := b2) rfl)
  refine ⟨fun c9 => bad (fun g => ?_), fun c9 => ?_⟩
  · have := or0 h9' c9
    have := g.2.1
    omega
  have q3 := or1 h9' c9
  refine s_X9_in _ _ _ _ _ t1 (fun r12 h12 => ?_)
  have h12' := in9 (p := 0) (q := 10) h12 rfl rfl
  refine ⟨fun c12 => bad (fun g => ?_), fun c12 => ?_⟩
  · have := or0 h12' c12
    have := g.2.2.1
    omega
  have q4 := or1 h12' c12
  refine s_X9_in _ _ _ _ _ t1 (fun r15 h15 => ?_)
  have h15' := in9 (p := 0) (q := 10) h15 rfl rfl
  refine ⟨fun c15 => bad (fun g => ?_), fun c15 => ?_⟩
  · have := or0 h15' c15
    have := g.2.2.2.1
    omega
  have q5 := or1 h15' c15
  refine s_X9_in _ _ _ _ _ t1 (fun r18 h18 => ?_)
  have h18' := in9 (p := 0) (q := 3) h18 rfl rfl
  refine ⟨fun c18 => bad (fun g => ?_), fun c18 => ?_⟩
  · have := or0 h18' c18
    have := g.2.2.2.2.1
    omega
  have q6 := or1 h18' c18
  refine s_X9_in _ _ _ _ _ t1 (fun r21 h21 => ?_)
  have h21' := in9 (p := 1) (q := 1000) h21 rfl rfl
  refine ⟨fun c21 => ?_, fun c21 => bad (fun g => ?_)⟩
  · have q7 := or1 h21' c21
    refine s_X9_isHome _ _ _ t1 (fun r24 h24 => ?_)
    rw [y8] at h24
    rw [y43]
    refine ⟨fun c24 => ⟨fun cl => ?_, fun cl => bad0 _ (fun g => ?_)⟩, fun c24 => bad0 _ (fun g => ?_)⟩
    · have q1 := or1 h24 c24
      have cl' := i_ne (q := 6) rfl rfl cl
      have hv : vp_in (gI z 43) 6 := vin rfl f.1 (by omega)
      refine ⟨hv, ?_⟩
      intro z27 e27
      have y27 : gI z27 43 = gI z 43 := by rw [e27]; exact y43
      rw [y27]
      refine ⟨hv, ?_⟩
      intro z28 e28
      have y28 : gI z28 43 = gI z 43 := by rw [e28]; exact y27
      rw [y28]
      refine ⟨hv, ?_⟩
      intro z29 e29
      have y29 : gI z29 43 = gI z 43 := by rw [e29]; exact y28
      rw [y29]
      refine ⟨hv, ?_⟩
      intro z30 e30
      have y30 : gI z30 43 = gI z 43 := by rw [e30]; exact y29
      rw [y30]
      refine ⟨hv, ?_⟩
      intro z31 e31
      have y31 : gI z31 43 = gI z 43 := by rw [e31]; exact y30
      rw [y31]
      refine ⟨hv, ?_⟩
      intro z32 e32
      have y32 : gI z32 43 = gI z 43 := by rw [e32]; exact y31
      rw [y32]
      refine ⟨hv, ?_⟩
      intro z33 e33 z34 e34
      have y33 : gI z33 43 = gI z 43 := by rw [e33]; exact y32
      rw [y33] at e34
      have t27 : TM z27 := by rw [e27]; exact Ty_wR t1 (show 0 ≤ b1.toInt ∧ b1.toInt ≤ 3 by omega)
      have t28 : TM z28 := by rw [e28]; exact Ty_wR t27 (show 0 ≤ b2.toInt ∧ b2.toInt ≤ 40 by omega)
      have t29 : TM z29 := by rw [e29]; exact Ty_wR t28 (show 0 ≤ b3.toInt ∧ b3.toInt ≤ 40 by omega)
      have t30 : TM z30 := by rw [e30]; exact Ty_wR t29 q4
      have t31 : TM z31 := by rw [e31]; exact Ty_wR t30 q5
      have t32 : TM z32 := by rw [e32]; exact Ty_wR t31 q6
      have t33 : TM z33 := by rw [e33]; exact Ty_wR t32 trivial
      have i34 : (gI z 43 + (1 : Int32)).toInt = (gI z 43).toInt + 1 := a_add rfl rfl (by omega) (by omega)
      have t34 : TM z34 := by rw [e34]; exact Ty_wI t33 (show 0 ≤ (gI z 43 + (1 : Int32)).toInt ∧ (gI z 43 + (1 : Int32)).toInt ≤ 6 by omega)
      have s34 : Same [0, 1, 43] [26, 27, 28, 29, 30, 31, 32] z z34 := ((((((((Same.tr (z1 := z) Same.rf s1 (by decide) (by decide)).r (by decide) e27).r (by decide) e28).r (by decide) e29).r (by decide) e30).r (by decide) e31).r (by decide) e32).r (by decide) e33).i (by decide) e34
      refine s_X9_told _ _ _ t34 (fun r zz tz sz _ => hS ⟨q2, q3, q4, q5, q6, q7, q1, by omega⟩ r zz tz (s34.tr sz (by decide) (by decide)) ?_ ?_ ?_ ?_ ?_ ?_ ?_ ?_)
      · rw [sz.1 43 (by decide), e34]; rfl
      · rw [sz.2 26 (by decide), e34, e33, e32, e31, e30, e29, e28]; show gF z27 26 = _; rw [e27, gF_wR, e1]; rfl
      · rw [sz.2 27 (by decide), e34, e33, e32, e31, e30, e29]; show gF z28 27 = _; rw [e28, gF_wR, e27, e1]; rfl
      · rw [sz.2 28 (by decide), e34, e33, e32, e31, e30]; show gF z29 28 = _; rw [e29, gF_wR, e28, e27, e1]; rfl
      · rw [sz.2 29 (by decide), e34, e33, e32, e31]; show gF z30 29 = _; rw [e30, gF_wR, e29, e28, e27, e1]; rfl
      · rw [sz.2 30 (by decide), e34, e33, e32]; show gF z31 30 = _; rw [e31, gF_wR, e30, e29, e28, e27, e1]; rfl
      · rw [sz.2 31 (by decide), e34, e33]; show gF z32 31 = _; rw [e32, gF_wR, e31, e30, e29, e28, e27, e1]; rfl
      · rw [sz.2 32 (by decide), e34]; show gF z33 32 = _; rw [e33, gF_wR, e32, e31, e30, e29, e28, e27, e1]; rfl
    · have cl' : (gI z 43).toInt = 6 := i_eq rfl rfl cl
      have := g.2.2.2.2.2.2.2
      omega
    · have := or0 h24 c24
      have := g.2.2.2.2.2.2.1
      omega
  · have := or0 h21' c21
    have := g.2.2.2.2.2.1
    omega
/-- stores and fillings of both sides -/
def SJ (zx zm : St) : Prop := (gF zx 40 = gF zm 26 ∧ gF zx 41 = gF zm 27 ∧ gF zx 42 = gF zm 28 ∧ gF zx 43 = gF zm 29 ∧ gF zx 44 = gF zm 30 ∧ gF zx 45 = gF zm 31 ∧ gF zx 46 = gF zm 32) ∧ (gI zx 3909 = gI zm 43 ∧ gI zx 3915 = gI zm 55) ∧ (∀ s : Nat, (s : Int) < (gI zm 43).toInt → 1 ≤ (gF zm 32 s).toInt ∧ (gF zm 32 s).toInt ≤ 1000) ∧ (∀ i : Nat, 0 ≤ (gF zm 4 i).toInt ∧ (gF zm 4 i).toInt ≤ 20000) ∧ ∀ i : Nat, (i : Int) < (gI zm 55).toInt → gF zx 50 i = gF zm 35 i ∧ gF zx 51 i = gF zm 36 i
theorem SJ_mv {zx zx1 zm zm1 : St} {I F I' F' : List Nat} (h : SJ zx zm) (ox : Same I F zx zx1) (om : Same I' F' zm zm1) (xI : ∀ x ∈ [3909, 3915], x ∉ I) (xF : ∀ x ∈ [40, 41, 42, 43, 44, 45, 46, 50, 51], x ∉ F) (mI : ∀ x ∈ [43, 55], x ∉ I') (mF : ∀ x ∈ [4, 26, 27, 28, 29, 30, 31, 32, 35, 36], x ∉ F') : SJ zx1 zm1 := by
  unfold SJ
  rw [ox.1 3909 (xI _ (by decide)), ox.1 3915 (xI _ (by decide)), om.1 43 (mI _ (by decide)), om.1 55 (mI _ (by decide)), ox.2 40 (xF _ (by decide)), ox.2 41 (xF _ (by decide)), ox.2 42 (xF _ (by decide)), ox.2 43 (xF _ (by decide)), ox.2 44 (xF _ (by decide)), ox.2 45 (xF _ (by decide)), ox.2 46 (xF _ (by decide)), ox.2 50 (xF _ (by decide)), ox.2 51 (xF _ (by decide)), om.2 4 (mF _ (by decide)), om.2 26 (mF _ (by decide)), om.2 27 (mF _ (by decide)), om.2 28 (mF _ (by decide)), om.2 29 (mF _ (by decide)), om.2 30 (mF _ (by decide)), om.2 31 (mF _ (by decide)), om.2 32 (mF _ (by decide)), om.2 35 (mF _ (by decide)), om.2 36 (mF _ (by decide))]
  exact h
theorem SJ_home {zx zx1 zm zm1 : St} {b1 : Int32} {k : Nat} (h : SJ zx zm) (ox : Same [8, 705] [8] zx zx1) (om : Same [0, 1, 8] [4] zm zm1) (a4 : gF zm1 4 = upd (gF zm 4) k b1) (hb : 0 ≤ b1.toInt ∧ b1.toInt ≤ 20000) : SJ zx1 zm1 := by
  obtain ⟨⟨r0, r1, r2, r3, r4, r5, r6⟩, ⟨n1, n2⟩, w, fu, fl⟩ := h
  refine ⟨⟨?_, ?_, ?_, ?_, ?_, ?_, ?_⟩, ⟨?_, ?_⟩, ?_, fun i => ?_, ?_⟩
  · rw [ox.2 40 (by decide), om.2 26 (by decide)]; exact r0
  · rw [ox.2 41 (by decide), om.2 27 (by decide)]; exact r1
  · rw [ox.2 42 (by decide), om.2 28 (by decide)]; exact r2
  · rw [ox.2 43 (by decide), om.2 29 (by decide)]; exact r3
  · rw [ox.2 44 (by decide), om.2 30 (by decide)]; exact r4
  · rw [ox.2 45 (by decide), om.2 31 (by decide)]; exact r5
  · rw [ox.2 46 (by decide), om.2 32 (by decide)]; exact r6
  · rw [ox.1 3909 (by decide), om.1 43 (by decide)]; exact n1
  · rw [ox.1 3915 (by decide), om.1 55 (by decide)]; exact n2
  · rw [om.1 43 (by decide), om.2 32 (by decide)]; exact w
  · rw [a4]
    by_cases e : i = k
    · rw [e, upd_at]; exact hb
    · rw [upd_ne e]; exact fu i
  · rw [om.1 55 (by decide), om.2 35 (by decide), om.2 36 (by decide), ox.2 50 (by decide), ox.2 51 (by decide)]; exact fl
theorem SJ_store {zx zx1 zm zm1 : St} {b1 b2 b3 b4 b5 b6 b7 : Int32} {k : Nat} (h : SJ zx zm) (f43 : 0 ≤ (gI zm 43).toInt ∧ (gI zm 43).toInt ≤ 6) (hk : (k : Int) = (gI zm 43).toInt) (h6 : (gI zm 43).toInt < 6) (ox : Same [8, 3909] [40, 41, 42, 43, 44, 45, 46] zx zx1) (om : Same [0, 1, 43] [26, 27, 28, 29, 30, 31, 32] zm zm1) (n1 : gI zx1 3909 = gI zx 3909 + 1) (m1 : gI zm1 43 = gI zm 43 + 1) (x0 : gF zx1 40 = upd (gF zx 40) k b1) (x1 : gF zx1 41 = upd (gF zx 41) k b2) (x2 : gF zx1 42 = upd (gF zx 42) k b3) (x3 : gF zx1 43 = upd (gF zx 43) k b4) (x4 : gF zx1 44 = upd (gF zx 44) k b5) (x5 : gF zx1 45 = upd (gF zx 45) k b6) (x6 : gF zx1 46 = upd (gF zx 46) k b7) (y0 : gF zm1 26 = upd (gF zm 26) k b1) (y1 : gF zm1 27 = upd (gF zm 27) k b2) (y2 : gF zm1 28 = upd (gF zm 28) k b3) (y3 : gF zm1 29 = upd (gF zm 29) k b4) (y4 : gF zm1 30 = upd (gF zm 30) k b5) (y5 : gF zm1 31 = upd (gF zm 31) k b6) (y6 : gF zm1 32 = upd (gF zm 32) k b7) (hw : 1 ≤ b7.toInt ∧ b7.toInt ≤ 1000) : SJ zx1 zm1 := by
  obtain ⟨⟨r0, r1, r2, r3, r4, r5, r6⟩, ⟨q1, q2⟩, w, fu, fl⟩ := h
  have i1 : (gI zm1 43).toInt = (gI zm 43).toInt + 1 := by rw [m1]; exact a_add rfl rfl (by omega) (by omega)
  refine ⟨⟨by rw [x0, y0, r0], by rw [x1, y1, r1], by rw [x2, y2, r2], by rw [x3, y3, r3], by rw [x4, y4, r4], by rw [x5, y5, r5], by rw [x6, y6, r6]⟩, ⟨by rw [n1, m1, q1], ?_⟩, fun s hs => ?_, ?_, ?_⟩
  · rw [ox.1 3915 (by decide), om.1 55 (by decide)]; exact q2
  · rw [y6]
    by_cases e : s = k
    · rw [e, upd_at]; exact hw
    · rw [upd_ne e]; exact w s (by omega)
  · rw [om.2 4 (by decide)]; exact fu
  · rw [om.1 55 (by decide), om.2 35 (by decide), om.2 36 (by decide), ox.2 50 (by decide), ox.2 51 (by decide)]; exact fl
theorem SJ_level {zx zx1 zm zm1 : St} {b2 : Int32} {k : Nat} (h : SJ zx zm) (ox : Same [8] [42] zx zx1) (om : Same [0, 1] [28] zm zm1) (x2 : gF zx1 42 = upd (gF zx 42) k b2) (y2 : gF zm1 28 = upd (gF zm 28) k b2) : SJ zx1 zm1 := by
  obtain ⟨⟨r0, r1, r2, r3, r4, r5, r6⟩, ⟨q1, q2⟩, w, fu, fl⟩ := h
  refine ⟨⟨?_, ?_, by rw [x2, y2, r2], ?_, ?_, ?_, ?_⟩, ⟨?_, ?_⟩, ?_, ?_, ?_⟩
  · rw [ox.2 40 (by decide), om.2 26 (by decide)]; exact r0
  · rw [ox.2 41 (by decide), om.2 27 (by decide)]; exact r1
  · rw [ox.2 43 (by decide), om.2 29 (by decide)]; exact r3
  · rw [ox.2 44 (by decide), om.2 30 (by decide)]; exact r4
  · rw [ox.2 45 (by decide), om.2 31 (by decide)]; exact r5
  · rw [ox.2 46 (by decide), om.2 32 (by decide)]; exact r6
  · rw [ox.1 3909 (by decide), om.1 43 (by decide)]; exact q1
  · rw [ox.1 3915 (by decide), om.1 55 (by decide)]; exact q2
  · rw [om.1 43 (by decide), om.2 32 (by decide)]; exact w
  · rw [om.2 4 (by decide)]; exact fu
  · rw [om.1 55 (by decide), om.2 35 (by decide), om.2 36 (by decide), ox.2 50 (by decide), ox.2 51 (by decide)]; exact fl
theorem SJ_fill {zx zx1 zm zm1 : St} {b2 : Int32} (h : SJ zx zm) (ox : Same [8, 3915] [49, 50, 51] zx zx1) (om : Same [0, 1, 55] [34, 35, 36] zm zm1) (n1 : gI zx1 3915 = b2) (m1 : gI zm1 55 = b2) (hf : ∀ i : Nat, (i : Int) < b2.toInt → gF zx1 50 i = gF zm1 35 i ∧ gF zx1 51 i = gF zm1 36 i) : SJ zx1 zm1 := by
  obtain ⟨⟨r0, r1, r2, r3, r4, r5, r6⟩, ⟨q1, q2⟩, w, fu, fl⟩ := h
  refine ⟨⟨?_, ?_, ?_, ?_, ?_, ?_, ?_⟩, ⟨?_, by rw [n1, m1]⟩, ?_, ?_, fun i hi => hf i (by rw [← m1]; exact hi)⟩
  · rw [ox.2 40 (by decide), om.2 26 (by decide)]; exact r0
  · rw [ox.2 41 (by decide), om.2 27 (by decide)]; exact r1
  · rw [ox.2 42 (by decide), om.2 28 (by decide)]; exact r2
  · rw [ox.2 43 (by decide), om.2 29 (by decide)]; exact r3
  · rw [ox.2 44 (by decide), om.2 30 (by decide)]; exact r4
  · rw [ox.2 45 (by decide), om.2 31 (by decide)]; exact r5
  · rw [ox.2 46 (by decide), om.2 32 (by decide)]; exact r6
  · rw [ox.1 3909 (by decide), om.1 43 (by decide)]; exact q1
  · rw [om.1 43 (by decide), om.2 32 (by decide)]; exact w
  · rw [om.2 4 (by decide)]; exact fu
/-- loads keep their bounds -/
theorem Hs_bd {zm : St} {st bg : Nat → Int32} {h t : Nat} (tm : TM zm) (bb : BB zm) (pb : PLB zm st bg) (ht : t < 168) : 0 ≤ (Hs zm st bg h t).toInt ∧ (Hs zm st bg h t).toInt ≤ 100000 := (Hs_int tm bb pb ht).2
/-- both sides fill by the same rule -/
theorem fG_eq {zx zm : St} {s T : Nat} (tm : TM zm) (cp : CP zx zm (gF zm 11) (gF zm 12)) (sj : SJ zx zm) (hT : T < 168) : fGx zx s T = fGm zm s T ∧ fEx zx s T = fEm zm s T := by
  obtain ⟨⟨r0, r1, r2, r3, r4, r5, r6⟩, _⟩ := sj
  have f26 : 0 ≤ (gF zm 26 s).toInt ∧ (gF zm 26 s).toInt ≤ 3 := tm.2 26 _
  have c26 := clampN f26.1
  constructor
  · funext d l x
    show gO (gF zx 41 s).toInt (gF zx 44 s).toInt (gF zx 43 s).toInt (gF zx 46 s).toInt (gF zx 8 (gF zx 40 s).toNatClampNeg).toInt (Fx zx (gF zx 40 s).toNatClampNeg (T - d)).toInt l x = gO (gF zm 27 s).toInt (gF zm 30 s).toInt (gF zm 29 s).toInt (gF zm 32 s).toInt (gF zm 4 (gF zm 26 s).toNatClampNeg).toInt (LD zm (gF zm 26 s) (nI (T - d)) (-1)).toInt l x
    have it : (nI (T - d)).toInt = ((T - d : Nat) : Int) := nI_toInt (by omega)
    have ct : (nI (T - d)).toNatClampNeg = T - d := nI_clamp (by omega)
    have el : LD zm (gF zm 26 s) (nI (T - d)) (-1) = Fx zx (gF zm 26 s).toNatClampNeg (T - d) := by
      rw [LD_Hs tm f26 (by omega), ct]
      exact (CP_Hs tm cp (by omega) (by omega)).symm
    rw [r0, r1, r3, r4, r6, cp.1.2.2.1.1, el]
  · funext d
    show (gF zx 5 (T - d)).toInt * (gF zx 46 s).toInt = (PR zm (nI (T - d)) (gI zm 2)).toInt * (gF zm 32 s).toInt
    rw [r6, cp.2.2.1 (T - d) (by omega)]
