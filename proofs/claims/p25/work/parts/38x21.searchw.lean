-- THE REFERENCE'S SEARCH, the walk itself
theorem coF_bd {zm : St} {oj : Nat → Nat} {c : Nat → Int32} (bd : ∀ j t : Nat, (j : Int) < (gI zm 12).toInt → -200000000 ≤ (ctM zm j t).toInt ∧ (ctM zm j t).toInt ≤ 200000000) : ∀ i, (∀ k, k < i → ((oj k : Nat) : Int) < (gI zm 12).toInt) → -200000000 * (i : Int) ≤ coF zm oj c i ∧ coF zm oj c i ≤ 200000000 * (i : Int) := by
  intro i
  induction i with
  | zero => intro _; show -200000000 * ((0 : Nat) : Int) ≤ (0 : Int) ∧ (0 : Int) ≤ 200000000 * ((0 : Nat) : Int); decide
  | succ i ih =>
    intro h
    have a := ih (fun k hk => h k (by omega))
    have b := bd (oj i) (c i).toNatClampNeg (h i (by omega))
    show _ ≤ coF zm oj c i + _ ∧ coF zm oj c i + _ ≤ _
    omega
/-- the rest of a choice costs no less than the bound says -/
theorem co_rest {z2 zm : St} {st bg : Nat → Int32} {oj : Nat → Nat} {n : Nat} {c : Nat → Int32} (tm : TM zm) (ck : CK z2 zm oj n) (hf : FeP zm st bg oj n c) : ∀ m i, i + m = n → coF zm oj c i + (gG z2 22 i).toInt ≤ coF zm oj c n := by
  intro m
  induction m with
  | zero =>
    intro i hi
    have : i = n := by omega
    rw [this, ck.2.1]; omega
  | succ m ih =>
    intro i hi
    have a := ih (i + 1) (by omega)
    have f := hf i (by omega)
    have f7 : 0 ≤ (gF zm 7 (oj i)).toInt ∧ (gF zm 7 (oj i)).toInt ≤ 167 := tm.2 7 _
    have h1 := f.2.1
    have h2 := f.2.2.1
    have cc := clampN (x := c i) (by omega)
    have b := ck.2.2.1 i (c i).toNatClampNeg (by omega) (by omega) (by omega)
    have e : coF zm oj c (i + 1) = coF zm oj c i + (ctM zm (oj i) (c i).toNatClampNeg).toInt := rfl
    omega
def dg (zm : St) (oj : Nat → Nat) (d : Nat → Int32) (k : Nat) : Int := (d k).toInt - (gF zm 7 (oj k)).toInt
theorem FR_same {z zz : St} (h : FR z) (s : Same [] [] z zz) : FR zz := by
  unfold FR PR
  rw [s.1 21 (by decide), s.1 2 (by decide), s.1 3 (by decide), s.1 7 (by decide), s.2 13 (by decide), s.2 1 (by decide), s.2 2 (by decide), s.2 3 (by decide)]
  exact h
set_option maxHeartbeats 4000000 in
theorem v_X9_search (b1 : Int32) (z zm : St) (P : Int64 → St → Prop) (st bg : Nat → Int32) (oj : Nat → Nat) (n : Nat) (cm : CM z zm st bg) (rm : RM zm) (tm : TM zm) (hn : b1.toInt = (n : Int)) (h5 : n ≤ 5) (ho : ∀ k, k < n → (gF z 18 k).toNatClampNeg = oj k ∧ oj k < 16 ∧ ((oj k : Nat) : Int) < (gI zm 12).toInt ∧ st (oj k) = 0) (hr : Rise oj n) (wnd : ∀ j : Nat, (gF zm 7 j).toInt ≤ (gF zm 8 j).toInt + 1) (bd : ∀ j t : Nat, (j : Int) < (gI zm 12).toInt → -200000000 ≤ (ctM zm j t).toInt ∧ (ctM zm j t).toInt ≤ 200000000) (hk : ∀ (r : Int64) (z2 : St), CM z2 zm st bg → Same [21] SR z z2 → ((r = -4000000000000000000 ∧ ∀ c, ¬ FeP zm st bg oj n c) ∨ (∃ b, Best zm st bg oj n b ∧ r.toInt = coF zm oj b n ∧ ∀ k, k < n → gF z2 23 k = b k)) → P r z2) : wp_X9_search b1 z P := by
  obtain ⟨tz, fz, sz, h11, h12, hbb⟩ := id cm
  have e00 : (0 : Int32).toInt = 0 := rfl
  have e1 : (1 : Int32).toInt = 1 := rfl
  have b18 : ∀ k, 0 ≤ (gF z 18 k).toInt ∧ (gF z 18 k).toInt ≤ 15 := fun k => tz.2 18 k
  have b7 : ∀ k, 0 ≤ (gF zm 7 k).toInt ∧ (gF zm 7 k).toInt ≤ 167 := fun k => tm.2 7 k
  unfold wp_X9_search
  refine v_X9_findLeast b1 z zm _ oj n tz rm tm sz hn h5 (fun k hk' => ⟨(ho k hk').1, (ho k hk').2.1, (ho k hk').2.2.1⟩) bd (fun z1 t1 s1 ck => ?_)
  have s1' : Same [21] SR z z1 := Same.tr (z1 := z) Same.rf s1 (by decide) (by decide)
  have u18 : gF z1 18 = gF z 18 := s1.2 18 (by decide)
  have u7 : gF z1 7 = gF zm 7 := (s1.2 7 (by decide)).trans (sz.2 7 (by decide))
  have cm1 : CM z1 zm st bg := ⟨t1, FR_same fz s1, sz.tr s1 (by decide) (by decide), fun o h => by rw [s1.2 11 (by decide)]; exact h11 o h, fun o h q => by rw [s1.2 12 (by decide)]; exact h12 o h q, hbb⟩
  intro K4 hK4
  have h4 : ∀ s3 : Int32, (0 < n → s3.toInt = (gF zm 7 (oj 0)).toInt) → K4 s3 := by
    intro s3 hs3
    refine hK4 s3 ?_
    intro K10 hK10
    -- the end of the walk
    have hneg : ∀ (v5 : Int64) (v6 : Int32) (v7 : Int64) (v8 v9 : Int32) (zz : St), CM zz zm st bg → Same [21] SR z zz → (v6 = 0 ∨ v6 = 1) → Fnd zm st bg oj n v6 v5.toInt (gF zz 23) (fun _ => True) → v8.toInt < 0 → K10 v5 v6 v7 v8 v9 zz := by
      intro v5 v6 v7 v8 v9 zz cz szz h01 hF hng
      refine hK10 _ _ _ _ _ _ ⟨fun _ => ⟨fun c6 => hk _ zz cz szz (Or.inl ⟨rfl, fun c hc => ?_⟩), fun c6 => hk _ zz cz szz (Or.inr ?_)⟩, fun c => absurd (Int32.lt_iff_toInt_lt.mpr (by omega)) c⟩
      · have := (hF.2 c hc trivial).1
        rw [c6] at this; exact absurd this (by decide)
      · have h1 : v6 = 1 := by
          rcases h01 with q | q
          · exact absurd q c6
          · exact q
        have := Fnd_end hF h1
        exact ⟨gF zz 23, this.1, this.2.symm, fun _ _ => rfl⟩
    have L : ∀ (f : Nat) (v5 : Int64) (v6 : Int32) (v7 : Int64) (v8 v9 : Int32) (z11 : St) (d : Nat → Int32), CM z11 zm (pS st oj v8.toNatClampNeg) (pG bg oj d v8.toNatClampNeg) → Same [21] SR z z11 → z11.2.2 = z1.2.2 → 0 ≤ v8.toInt → v8.toInt < (n : Int) → FeP zm st bg oj v8.toNatClampNeg d → (v6 = 0 ∨ v6 = 1) → v7.toInt = coF zm oj d v8.toNatClampNeg → Fnd zm st bg oj n v6 v5.toInt (gF z11 23) (Bf v8.toNatClampNeg d v9.toInt) → (gF zm 7 (oj v8.toNatClampNeg)).toInt ≤ v9.toInt → v9.toInt ≤ (gF zm 8 (oj v8.toNatClampNeg)).toInt + 1 → (71288262 - (6 * vV (dg zm oj d) v8.toNatClampNeg (v9.toInt - (gF zm 7 (oj v8.toNatClampNeg)).toInt) + v8.toInt)).toNat < f → K10 v5 v6 v7 v8 v9 z11 := by
      intro f
      induction f with
      | zero => intro v5 v6 v7 v8 v9 z11 d _ _ _ _ _ _ _ _ _ _ _ q; omega
      | succ f ih =>
        intro v5 v6 v7 v8 v9 z11 d cm11 s11 l11 g0 g1 hfe h01 hsum hF ge1 ge2 gm
        have cv := clampN g0
        obtain ⟨o1, o2, o3, o4⟩ := ho v8.toNatClampNeg (by omega)
        have f7 := b7 (oj v8.toNatClampNeg)
        have f8 : 0 ≤ (gF zm 8 (oj v8.toNatClampNeg)).toInt ∧ (gF zm 8 (oj v8.toNatClampNeg)).toInt ≤ 167 := tm.2 8 _
        have c7 := clampN f7.1
        have hwin := rm (oj v8.toNatClampNeg)
        have r18 : gF z11 18 = gF z 18 := s11.2 18 (by decide)
        have gd : ∀ k : Nat, k < v8.toNatClampNeg → 0 ≤ dg zm oj d k ∧ dg zm oj d k ≤ 23 := by
          intro k hk'
          have a := hfe k hk'
          have b := rm (oj k)
          unfold dg
          have a1 := a.2.1
          have a2 := a.2.2.1
          omega
        have hsb := coF_bd (c := d) bd v8.toNatClampNeg (fun k hk' => (ho k (by omega)).2.2.1)
        refine hK10 v5 v6 v7 v8 v9 z11 ⟨fun c => absurd (i_lt rfl rfl c) (by omega), fun _ => ⟨vin rfl g0 (by omega), ?_⟩⟩
        intro x14 e14
        rw [r18] at e14
        have f14 : 0 ≤ x14.toInt ∧ x14.toInt ≤ 15 := by rw [e14]; exact b18 _
        have ex14 : x14.toNatClampNeg = oj v8.toNatClampNeg := by rw [e14]; exact o1
        have c14 := clampN f14.1
        have hv16 : vp_in x14 16 := vin rfl f14.1 (by omega)
        have m24 : ((24 : Int32) * v8).toInt = 24 * v8.toInt := a_mul rfl rfl (by omega) (by omega)
        have hbd := vV_bd (d := dg zm oj d) (i := v8.toNatClampNeg) (e := v9.toInt - (gF zm 7 (oj v8.toNatClampNeg)).toInt) (by omega) gd (by omega) (by omega)
        have costAt : ∀ (zz : St) (h : Int32), zz.2.2 = z1.2.2 → (gF zm 7 (oj v8.toNatClampNeg)).toInt ≤ h.toInt → h.toInt ≤ (gF zm 8 (oj v8.toNatClampNeg)).toInt → ∀ x : Int32, x.toInt = 24 * v8.toInt + h.toInt - (gF zm 7 (oj v8.toNatClampNeg)).toInt → gG zz 21 x.toNatClampNeg = ctM zm (oj v8.toNatClampNeg) h.toNatClampNeg := by
          intro zz h hl h1 h2 x hx
          have ch := clampN (x := h) (by omega)
          have cx := clampN (x := x) (by omega)
          have := ck.1 v8.toNatClampNeg h.toNatClampNeg (by omega) (by omega) (by omega)
          rw [← this]
          have e : gG zz 21 = gG z1 21 := by show zz.2.2.2 21 = z1.2.2.2 21; rw [hl]
          rw [e, show x.toNatClampNeg = 24 * v8.toNatClampNeg + (h.toNatClampNeg - (gF zm 7 (oj v8.toNatClampNeg)).toNatClampNeg) by omega]
        intro K17 hK17
        have L2 : ∀ (m : Nat) (v15 v16 : Int32) (z18 : St), CM z18 zm (pS st oj v8.toNatClampNeg) (pG bg oj d v8.toNatClampNeg) → Same [21] SR z z18 → z18.2.2 = z1.2.2 → gF z18 23 = gF z11 23 → v9.toInt ≤ v15.toInt → v15.toInt ≤ (gF zm 8 (oj v8.toNatClampNeg)).toInt + 1 → Fnd zm st bg oj n v6 v5.toInt (gF z11 23) (Bf v8.toNatClampNeg d v15.toInt) → (v16 = 0 ∨ (v16 = 1 ∧ v15.toInt ≤ (gF zm 8 (oj v8.toNatClampNeg)).toInt ∧ MBg zm (pS st oj v8.toNatClampNeg) (pG bg oj d v8.toNatClampNeg) (oj v8.toNatClampNeg) v15.toInt ∧ (v6 = 1 → v7.toInt + (ctM zm (oj v8.toNatClampNeg) v15.toNatClampNeg).toInt + (gG z1 22 (v8.toNatClampNeg + 1)).toInt < v5.toInt))) → (2 * (200 - v15.toInt) - v16.toInt).toNat < m → K17 v15 v16 z18 := by
          intro m
          induction m with
          | zero => intro v15 v16 z18 _ _ _ _ _ _ _ _ q; omega
          | succ m ih2 =>
            intro v15 v16 z18 cm18 s18 l18 w23 d0 d1 hF2 d2 dm
            have w7 : gF z18 7 = gF zm 7 := cm18.2.2.1.2 7 (by decide)
            have w8 : gF z18 8 = gF zm 8 := cm18.2.2.1.2 8 (by decide)
            have c15 := clampN (x := v15) (by omega)
            refine hK17 v15 v16 z18 ⟨hv16, ?_⟩
            rw [ex14, w8, w7]
            intro K19 hK19
            have h19 : ((gF zm 8 (oj v8.toNatClampNeg)).toInt < v15.toInt ∨ ¬ v16 = 0) → K19 := by
              intro hexit
              refine hK19 ?_
              intro K24 hK24
              have h24 : ∀ (v20 : Int64) (v21 : Int32) (v22 : Int64) (v23 : Int32) (z25 : St) (d2 : Nat → Int32), Same [21] SR z z25 → z25.2.2 = z1.2.2 → v23.toInt < (n : Int) → (v21 = 0 ∨ v21 = 1) → (v23.toInt < 0 → CM z25 zm st bg ∧ Fnd zm st bg oj n v21 v20.toInt (gF z25 23) (fun _ => True)) → (0 ≤ v23.toInt → CM z25 zm (pS st oj (v23.toNatClampNeg + 1)) (pG bg oj d2 (v23.toNatClampNeg + 1)) ∧ FeP zm st bg oj (v23.toNatClampNeg + 1) d2 ∧ v22.toInt = coF zm oj d2 (v23.toNatClampNeg + 1) ∧ Fnd zm st bg oj n v21 v20.toInt (gF z25 23) (Bf v23.toNatClampNeg d2 ((d2 v23.toNatClampNeg).toInt + 1)) ∧ (71288262 - (6 * vV (dg zm oj d2) v23.toNatClampNeg (dg zm oj d2 v23.toNatClampNeg + 1) + v23.toInt)).toNat < f) → K24 v20 v21 v22 v23 z25 := by
                intro v20 v21 v22 v23 z25 d2 s25 l25 k1 k01 kneg kpos
                refine hK24 v20 v21 v22 v23 z25 ?_
                intro K28 hK28
                refine ⟨fun c => ?_, fun c => ?_⟩
                · have c' : v23.toInt < 0 := i_lt rfl rfl c
                  exact hK28 v22 v15 z25 (hneg _ _ _ _ _ _ (kneg c').1 s25 k01 (kneg c').2 c')
                · have c' : 0 ≤ v23.toInt := i_nlt rfl rfl c
                  obtain ⟨cm25, fe25, su25, F25, me25⟩ := kpos c'
                  have c23 := clampN c'
                  obtain ⟨p1, p2, p3, p4⟩ := ho v23.toNatClampNeg (by omega)
                  have y18 : gF z25 18 = gF z 18 := s25.2 18 (by decide)
                  have y7 : gF z25 7 = gF zm 7 := cm25.2.2.1.2 7 (by decide)
                  have q7 := b7 (oj v23.toNatClampNeg)
                  have q8 : 0 ≤ (gF zm 8 (oj v23.toNatClampNeg)).toInt ∧ (gF zm 8 (oj v23.toNatClampNeg)).toInt ≤ 167 := tm.2 8 _
                  have qw := rm (oj v23.toNatClampNeg)
                  have fe := fe25 v23.toNatClampNeg (by omega)
                  have fe1 := fe.2.1
                  have fe2 := fe.2.2.1
                  have cd2 := clampN (x := d2 v23.toNatClampNeg) (by omega)
                  have cq7 := clampN q7.1
                  refine ⟨vin rfl c' (by omega), ?_⟩
                  intro x31 e31
                  rw [y18] at e31
                  have f31 : 0 ≤ x31.toInt ∧ x31.toInt ≤ 15 := by rw [e31]; exact b18 _
                  have ex31 : x31.toNatClampNeg = oj v23.toNatClampNeg := by rw [e31]; exact p1
                  have hv31 : vp_in x31 16 := vin rfl f31.1 (by omega)
                  have rise : Rise oj n := hr
                  have y12 : gF z25 12 (oj v23.toNatClampNeg) = d2 v23.toNatClampNeg := by
                    rw [cm25.2.2.2.2.1 _ p3 (by rw [pS_in rise _ (by omega) (Nat.lt_succ_self _)]; decide)]
                    exact pG_in rise _ (by omega) (Nat.lt_succ_self _)
                  have n24 : ((24 : Int32) * v23).toInt = 24 * v23.toInt := a_mul rfl rfl (by omega) (by omega)
                  refine ⟨hv31, hv31, ?_⟩
                  rw [ex31, y12, y7]
                  have ix : ((24 : Int32) * v23 + d2 v23.toNatClampNeg - gF zm 7 (oj v23.toNatClampNeg)).toInt = 24 * v23.toInt + (d2 v23.toNatClampNeg).toInt - (gF zm 7 (oj v23.toNatClampNeg)).toInt := a_sub (a_add n24 rfl (by omega) (by omega)) rfl (by omega) (by omega)
                  refine ⟨vin ix (by omega) (by omega), ?_⟩
                  have hcost : gG z25 21 ((24 : Int32) * v23 + d2 v23.toNatClampNeg - gF zm 7 (oj v23.toNatClampNeg)).toNatClampNeg = ctM zm (oj v23.toNatClampNeg) (d2 v23.toNatClampNeg).toNatClampNeg := by
                    have cx := clampN (x := (24 : Int32) * v23 + d2 v23.toNatClampNeg - gF zm 7 (oj v23.toNatClampNeg)) (by omega)
                    have := ck.1 v23.toNatClampNeg (d2 v23.toNatClampNeg).toNatClampNeg (by omega) (by omega) (by omega)
                    rw [← this]
                    have e : gG z25 21 = gG z1 21 := by show z25.2.2.2 21 = z1.2.2.2 21; rw [l25]
                    rw [e, show ((24 : Int32) * v23 + d2 v23.toNatClampNeg - gF zm 7 (oj v23.toNatClampNeg)).toNatClampNeg = 24 * v23.toNatClampNeg + ((d2 v23.toNatClampNeg).toNatClampNeg - (gF zm 7 (oj v23.toNatClampNeg)).toNatClampNeg) by omega]
                  rw [hcost]
                  intro x32 e32
                  refine ⟨hv31, ?_⟩
                  intro z33 e33
                  refine ⟨hv31, ?_⟩
                  intro x34 e34
                  have y12' : gF z33 12 = gF z25 12 := by rw [e33]; rfl
                  rw [y12', y12] at e34
                  have i34 : x34.toInt = (d2 v23.toNatClampNeg).toInt + 1 := by rw [e34]; exact a_add rfl e1 (by omega) (by omega)
                  have hcb := bd (oj v23.toNatClampNeg) (d2 v23.toNatClampNeg).toNatClampNeg p3
                  have hsb2 := coF_bd (c := d2) bd (v23.toNatClampNeg + 1) (fun k hk' => (ho k (by omega)).2.2.1)
                  have ecs : coF zm oj d2 (v23.toNatClampNeg + 1) = coF zm oj d2 v23.toNatClampNeg + (ctM zm (oj v23.toNatClampNeg) (d2 v23.toNatClampNeg).toNatClampNeg).toInt := rfl
                  have i32 : x32.toInt = coF zm oj d2 v23.toNatClampNeg := by
                    rw [e32, a_subL su25 rfl (by omega) (by omega)]
                    omega
                  have ps0 : pS st oj v23.toNatClampNeg (oj v23.toNatClampNeg) = 0 := by
                    rw [pS_out _ (fun l hl => by have := rise l v23.toNatClampNeg hl (by omega); omega)]; exact p4
                  refine hK28 x32 x34 z33 (ih v20 v21 x32 v23 x34 z33 d2 ⟨by rw [e33]; exact Ty_wR cm25.1 trivial, by rw [e33]; exact cm25.2.1, cm25.2.2.1.r (by decide) e33, fun o h => ?_, fun o h hs => ?_, fun o h hs => ?_⟩ (s25.r (by decide) e33) (by rw [e33]; exact l25) c' k1 (fun k hk' => fe25 k (by omega)) k01 i32 (by rw [e33, i34]; exact F25) (by omega) (by omega) ?_)
                  · rw [e33, gF_upd]
                    by_cases e : o = oj v23.toNatClampNeg
                    · rw [if_pos e, e]; exact ps0.symm
                    · rw [if_neg e, cm25.2.2.2.1 o h]
                      show upd _ _ _ o = _
                      rw [upd_ne e]
                  · rw [y12']
                    by_cases e : o = oj v23.toNatClampNeg
                    · rw [e] at hs; exact absurd ps0 hs
                    · rw [cm25.2.2.2.2.1 o h (by show ¬ upd _ _ _ o = 0; rw [upd_ne e]; exact hs)]
                      show upd _ _ _ o = _
                      rw [upd_ne e]
                  · by_cases e : o = oj v23.toNatClampNeg
                    · rw [e] at hs; exact absurd ps0 hs
                    · have := cm25.2.2.2.2.2 o h (by show ¬ upd _ _ _ o = 0; rw [upd_ne e]; exact hs)
                      have e2 : pG bg oj d2 (v23.toNatClampNeg + 1) o = pG bg oj d2 v23.toNatClampNeg o := upd_ne e
                      rw [e2] at this; exact this
                  · have ed : x34.toInt - (gF zm 7 (oj v23.toNatClampNeg)).toInt = dg zm oj d2 v23.toNatClampNeg + 1 := by unfold dg; omega
                    rw [ed]; exact me25
              refine ⟨fun c16 => ?_, fun c16 => ⟨hv16, ?_⟩⟩
              · -- no hour is left: one job back
                have hlast : (gF zm 8 (oj v8.toNatClampNeg)).toInt < v15.toInt := by
                  rcases hexit with q | q
                  · exact q
                  · exact absurd c16 q
                intro x36 e36
                have i36 : x36.toInt = v8.toInt - 1 := by rw [e36]; exact a_add rfl (show (-1 : Int32).toInt = -1 from rfl) (by omega) (by omega)
                rw [← w23] at hF2
                refine h24 v5 v6 v7 x36 z18 d s18 l18 (by omega) h01 (fun hng => ?_) (fun hps => ?_)
                · have e0 : v8.toNatClampNeg = 0 := by omega
                  rw [e0] at cm18 hF2 hlast
                  exact ⟨cm18, Fnd_out (by omega) hF2 hlast⟩
                · have c36 := clampN hps
                  have e8 : v8.toNatClampNeg = x36.toNatClampNeg + 1 := by omega
                  rw [e8] at cm18 hF2 hlast hfe hsum
                  refine ⟨cm18, hfe, hsum, Fnd_back (by omega) hF2 hlast, ?_⟩
                  have := vV_back (d := dg zm oj d) (d' := dg zm oj d) (i := v8.toNatClampNeg) (j := x36.toNatClampNeg) (e := v9.toInt - (gF zm 7 (oj v8.toNatClampNeg)).toInt) (by omega) e8 (fun k _ => rfl) (by omega)
                  omega
              · -- found
                obtain ⟨q16, hle, hmb, hpr⟩ : v16 = 1 ∧ v15.toInt ≤ (gF zm 8 (oj v8.toNatClampNeg)).toInt ∧ MBg zm (pS st oj v8.toNatClampNeg) (pG bg oj d v8.toNatClampNeg) (oj v8.toNatClampNeg) v15.toInt ∧ (v6 = 1 → v7.toInt + (ctM zm (oj v8.toNatClampNeg) v15.toNatClampNeg).toInt + (gG z1 22 (v8.toNatClampNeg + 1)).toInt < v5.toInt) := by
                  rcases d2 with q | q
                  · exact absurd q c16
                  · exact q
                intro z37 e37
                have t37 : TM z37 := by rw [e37]; exact Ty_wR cm18.1 trivial
                refine ⟨hv16, ?_⟩
                intro z38 e38
                have t38 : TM z38 := by rw [e38]; exact Ty_wR t37 trivial
                have s38 : Same [21] SR z z38 := (s18.r (by decide) e37).r (by decide) e38
                have l38 : z38.2.2 = z1.2.2 := by rw [e38, e37]; exact l18
                have y7 : gF z38 7 = gF zm 7 := by rw [e38, e37]; exact w7
                have y18 : gF z38 18 = gF z 18 := s38.2 18 (by decide)
                have y23 : gF z38 23 = gF z11 23 := by rw [e38, e37]; exact w23
                have a11 : gF z38 11 = upd (gF z18 11) (oj v8.toNatClampNeg) 1 := by rw [e38]; show gF z37 11 = _; rw [e37, gF_wR]
                have a12 : gF z38 12 = upd (gF z18 12) (oj v8.toNatClampNeg) v15 := by rw [e38, gF_wR, e37]; rfl
                have dsame : ∀ l, l < v8.toNatClampNeg → upd d v8.toNatClampNeg v15 l = d l := fun l hl => upd_ne (by omega)
                have ePB : pG bg oj (upd d v8.toNatClampNeg v15) (v8.toNatClampNeg + 1) = upd (pG bg oj d v8.toNatClampNeg) (oj v8.toNatClampNeg) v15 := by
                  show upd (pG bg oj (upd d v8.toNatClampNeg v15) v8.toNatClampNeg) (oj v8.toNatClampNeg) (upd d v8.toNatClampNeg v15 v8.toNatClampNeg) = _
                  rw [pG_co _ dsame, upd_at]
                have cm38 : CM z38 zm (pS st oj (v8.toNatClampNeg + 1)) (pG bg oj (upd d v8.toNatClampNeg v15) (v8.toNatClampNeg + 1)) := by
                  rw [ePB]
                  refine ⟨t38, by rw [e38, e37]; exact cm18.2.1, (cm18.2.2.1.r (by decide) e37).r (by decide) e38, fun o h => ?_, fun o h hs => ?_, fun o h hs => ?_⟩
                  · rw [a11]
                    show _ = upd _ _ _ o
                    by_cases e : o = oj v8.toNatClampNeg
                    · rw [e, upd_at, upd_at]
                    · rw [upd_ne e, upd_ne e]; exact cm18.2.2.2.1 o h
                  · rw [a12]
                    by_cases e : o = oj v8.toNatClampNeg
                    · rw [e, upd_at, upd_at]
                    · rw [upd_ne e, upd_ne e]
                      have hs' : ¬ upd (pS st oj v8.toNatClampNeg) (oj v8.toNatClampNeg) 1 o = 0 := hs
                      rw [upd_ne e] at hs'
                      exact cm18.2.2.2.2.1 o h hs'
                  · by_cases e : o = oj v8.toNatClampNeg
                    · rw [e, upd_at]; omega
                    · rw [upd_ne e]
                      have hs' : ¬ upd (pS st oj v8.toNatClampNeg) (oj v8.toNatClampNeg) 1 o = 0 := hs
                      rw [upd_ne e] at hs'
                      exact cm18.2.2.2.2.2 o h hs'
                have fe38 : FeP zm st bg oj (v8.toNatClampNeg + 1) (upd d v8.toNatClampNeg v15) := by
                  intro k hk'
                  by_cases e : k = v8.toNatClampNeg
                  · rw [e, pG_co _ dsame, upd_at]; exact hmb
                  · rw [pG_co k (fun l hl => dsame l (by omega)), dsame k (by omega)]; exact hfe k (by omega)
                have ix : ((24 : Int32) * v8 + v15 - gF z38 7 (oj v8.toNatClampNeg)).toInt = 24 * v8.toInt + v15.toInt - (gF zm 7 (oj v8.toNatClampNeg)).toInt := a_sub (a_add m24 rfl (by omega) (by omega)) (by rw [y7]) (by omega) (by omega)
                refine ⟨hv16, vin ix (by omega) (by omega), ?_⟩
                rw [costAt z38 v15 l38 (by omega) hle _ ix]
                intro x39 e39
                have hcb := bd (oj v8.toNatClampNeg) v15.toNatClampNeg o3
                have ecs : coF zm oj (upd d v8.toNatClampNeg v15) (v8.toNatClampNeg + 1) = coF zm oj d v8.toNatClampNeg + (ctM zm (oj v8.toNatClampNeg) v15.toNatClampNeg).toInt := by
                  show coF zm oj (upd d v8.toNatClampNeg v15) v8.toNatClampNeg + _ = _
                  rw [coF_co _ dsame, upd_at]
                have i39 : x39.toInt = coF zm oj (upd d v8.toNatClampNeg v15) (v8.toNatClampNeg + 1) := by
                  rw [e39, a_addL hsum rfl (by omega) (by omega), ecs]
                have ib : (b1 - (1 : Int32)).toInt = (n : Int) - 1 := a_sub hn e1 (by omega) (by omega)
                have dgs : ∀ k, k < v8.toNatClampNeg → dg zm oj (upd d v8.toNatClampNeg v15) k = dg zm oj d k := fun k hk' => by unfold dg; rw [dsame k hk']
                have dge : dg zm oj (upd d v8.toNatClampNeg v15) v8.toNatClampNeg = v15.toInt - (gF zm 7 (oj v8.toNatClampNeg)).toInt := by unfold dg; rw [upd_at]
                refine ⟨fun c8 => ?_, fun c8 => ?_⟩
                · have c8' := i_ne rfl ib c8
                  intro x41 e41
                  have i41 : x41.toInt = v8.toInt + 1 := by rw [e41]; exact a_add rfl e1 (by omega) (by omega)
                  have c41 := clampN (x := x41) (by omega)
                  have e41' : x41.toNatClampNeg = v8.toNatClampNeg + 1 := by omega
                  obtain ⟨p1, p2, p3, p4⟩ := ho (v8.toNatClampNeg + 1) (by omega)
                  have g18 := b18 x41.toNatClampNeg
                  have q7 := b7 (oj (v8.toNatClampNeg + 1))
                  have q8 : 0 ≤ (gF zm 8 (oj (v8.toNatClampNeg + 1))).toInt ∧ (gF zm 8 (oj (v8.toNatClampNeg + 1))).toInt ≤ 167 := tm.2 8 _
                  refine ⟨vin rfl (by omega) (by omega), by rw [y18]; exact vin rfl g18.1 (by omega), ?_⟩
                  intro x42 e42
                  rw [y18, y7, e41', p1] at e42
                  have hF3 : Fnd zm st bg oj n v6 v5.toInt (gF z38 23) (Bf (v8.toNatClampNeg + 1) (upd d v8.toNatClampNeg v15) x42.toInt) := by
                    rw [y23]
                    exact Fnd_deep (by omega) hF2 dsame (by rw [upd_at]) (by rw [e42])
                  have hne : (gF zm 7 (oj (v8.toNatClampNeg + 1))).toInt ≤ (gF zm 8 (oj (v8.toNatClampNeg + 1))).toInt + 1 := wnd (oj (v8.toNatClampNeg + 1))
                  refine ih v5 v6 x39 x41 x42 z38 (upd d v8.toNatClampNeg v15) (by rw [e41']; exact cm38) s38 l38 (by omega) (by omega) (by rw [e41']; exact fe38) h01 (by rw [e41']; exact i39) (by rw [e41']; exact hF3) (by rw [e41', e42]; exact Int.le_refl _) (by rw [e41', e42]; exact hne) ?_
                  have := vV_deep (d := dg zm oj d) (d' := dg zm oj (upd d v8.toNatClampNeg v15)) (i := v8.toNatClampNeg) (e := v9.toInt - (gF zm 7 (oj v8.toNatClampNeg)).toInt) (e' := v15.toInt - (gF zm 7 (oj v8.toNatClampNeg)).toInt) (by omega) dgs dge (by omega)
                  rw [e41', e42, Int.sub_self]
                  omega
                · have c8' := i_eq rfl ib c8
                  have elast : v8.toNatClampNeg + 1 = n := by omega
                  intro K44 hK44
                  have L3 : ∀ (p : Nat) (v43 : Int32) (z45 : St), TM z45 → Same [] [23] z38 z45 → z45.2.2 = z38.2.2 → 0 ≤ v43.toInt → v43.toInt ≤ (n : Int) → (∀ k : Nat, (k : Int) < v43.toInt → gF z45 23 k = upd d v8.toNatClampNeg v15 k) → (5 - v43.toInt).toNat < p → K44 v43 z45 := by
                    intro p
                    induction p with
                    | zero => intro v43 z45 _ _ _ _ _ _ q; omega
                    | succ p ih3 =>
                      intro v43 z45 t45 s45 l45 q0 q1 hbest qm
                      have cv43 := clampN q0
                      have cm45 : CM z45 zm (pS st oj (v8.toNatClampNeg + 1)) (pG bg oj (upd d v8.toNatClampNeg v15) (v8.toNatClampNeg + 1)) := by
                        refine ⟨t45, ?_, cm38.2.2.1.tr s45 (by decide) (by decide), fun o h => ?_, fun o h hs => ?_, cm38.2.2.2.2.2⟩
                        · have fr := cm38.2.1
                          unfold FR PR
                          rw [s45.1 21 (by decide), s45.1 2 (by decide), s45.1 3 (by decide), s45.1 7 (by decide), s45.2 13 (by decide), s45.2 1 (by decide), s45.2 2 (by decide), s45.2 3 (by decide)]
                          exact fr
                        · rw [s45.2 11 (by decide)]; exact cm38.2.2.2.1 o h
                        · rw [s45.2 12 (by decide)]; exact cm38.2.2.2.2.1 o h hs
                      refine hK44 v43 z45 ⟨fun cc => ?_, fun cc => ?_⟩
                      · have cc' := i_le hn rfl cc
                        have hcoN : coF zm oj (gF z45 23) n = x39.toInt := by
                          rw [i39, elast]
                          exact coF_co n (fun l hl => hbest l (by omega))
                        have hfeN : FeP zm st bg oj n (gF z45 23) := FeP_co (fun l hl => hbest l (by omega)) (by rw [← elast]; exact fe38)
                        refine h24 x39 1 x39 v8 z45 (upd d v8.toNatClampNeg v15) (s38.tr s45 (by decide) (by decide)) (l45.trans l38) g1 (Or.inr rfl) (fun hng => by omega) (fun _ => ⟨cm45, fe38, i39, ?_, ?_⟩)
                        · have hlf := Fnd_leaf (b' := gF z45 23) elast hF2 (fun l hl => (hbest l (by omega)).trans (dsame l hl)) (by rw [hbest v8.toNatClampNeg (by omega), upd_at]) hfeN hcoN (fun h1 => by
                            have a := hpr h1
                            have b := ck.2.1
                            rw [← elast] at b
                            rw [b] at a
                            rw [i39, ecs]
                            omega)
                          refine Fnd_w hlf (fun c hc ha => Or.inl ?_)
                          rcases ha with ⟨k, k1, k2, k3⟩ | ⟨q1', q2'⟩
                          · exact Or.inl ⟨k, k1, fun l hl => (k2 l hl).trans (dsame l (by omega)), by rw [dsame k k1] at k3; exact k3⟩
                          · exact Or.inr ⟨fun l hl => (q1' l hl).trans (dsame l hl), by rw [upd_at] at q2'; exact q2'⟩
                        · have := vV_next (d := dg zm oj d) (d' := dg zm oj (upd d v8.toNatClampNeg v15)) (i := v8.toNatClampNeg) (e := v9.toInt - (gF zm 7 (oj v8.toNatClampNeg)).toInt) (e' := dg zm oj (upd d v8.toNatClampNeg v15) v8.toNatClampNeg + 1) (by omega) dgs (by rw [dge]; omega)
                          omega
                      · have cc' := i_nle hn rfl cc
                        obtain ⟨p1, p2, p3, p4⟩ := ho v43.toNatClampNeg (by omega)
                        have g18 := b18 v43.toNatClampNeg
                        have hv5 : vp_in v43 5 := vin rfl q0 (by omega)
                        have w18 : gF z45 18 = gF z 18 := (s45.2 18 (by decide)).trans y18
                        refine ⟨hv5, by rw [w18]; exact vin rfl g18.1 (by omega), hv5, ?_⟩
                        rw [w18, p1]
                        have hval : gF z45 12 (oj v43.toNatClampNeg) = upd d v8.toNatClampNeg v15 v43.toNatClampNeg := by
                          rw [cm45.2.2.2.2.1 _ p3 (by rw [pS_in hr _ (by omega) (by omega)]; decide)]
                          exact pG_in hr _ (by omega) (by omega)
                        intro z47 e47 x48 e48
                        have i48 : x48.toInt = v43.toInt + 1 := by rw [e48]; exact a_add rfl e1 (by omega) (by omega)
                        refine ih3 x48 z47 (by rw [e47]; exact Ty_wR t45 trivial) (s45.r (by decide) e47) (by rw [e47]; exact l45) (by omega) (by omega) (fun k hk' => ?_) (by omega)
                        rw [e47, gF_upd]
                        by_cases e : k = v43.toNatClampNeg
                        · rw [if_pos e, hval, e]
                        · rw [if_neg e]; exact hbest k (by omega)
                  exact L3 _ 0 z38 t38 Same.rf rfl (by decide) (by rw [e00]; omega) (fun k hk' => absurd hk' (by rw [e00]; omega)) (Nat.lt_succ_self _)
            refine ⟨fun c => h19 (Or.inl (i_lt rfl rfl c)), fun c => ⟨fun c16 => h19 (Or.inr c16), fun c16 => ⟨hv16, ?_⟩⟩⟩
            have c' := i_nlt rfl rfl c
            have ix : ((24 : Int32) * v8 + v15 - gF zm 7 (oj v8.toNatClampNeg)).toInt = 24 * v8.toInt + v15.toInt - (gF zm 7 (oj v8.toNatClampNeg)).toInt := a_sub (a_add m24 rfl (by omega) (by omega)) rfl (by omega) (by omega)
            refine ⟨vin ix (by omega) (by omega), ?_⟩
            rw [costAt z18 v15 l18 (by omega) c' _ ix]
            intro x51 e51 K53 hK53
            have hcb := bd (oj v8.toNatClampNeg) v15.toNatClampNeg o3
            have i51 : x51.toInt = v7.toInt + (ctM zm (oj v8.toNatClampNeg) v15.toNatClampNeg).toInt := by rw [e51]; exact a_addL rfl rfl (by omega) (by omega)
            have i16 : v16.toInt = 0 := by rw [c16]; rfl
            have h53a : ∀ z54 : St, CM z54 zm (pS st oj v8.toNatClampNeg) (pG bg oj d v8.toNatClampNeg) → Same [21] SR z z54 → z54.2.2 = z1.2.2 → gF z54 23 = gF z11 23 → (¬ MBg zm (pS st oj v8.toNatClampNeg) (pG bg oj d v8.toNatClampNeg) (oj v8.toNatClampNeg) v15.toInt ∨ (v6 = 1 ∧ ∀ c, FeP zm st bg oj n c → (∀ l, l < v8.toNatClampNeg → c l = d l) → (c v8.toNatClampNeg).toInt = v15.toInt → v5.toInt ≤ coF zm oj c n)) → K53 0 z54 := by
              intro z54 cm54 s54 l54 w54 hskip
              refine hK53 0 z54 ?_
              intro K57 hK57
              refine ⟨fun _ => hK57 _ _ (fun x58 e58 => ?_), fun q => absurd rfl q⟩
              have i58 : x58.toInt = v15.toInt + 1 := by rw [e58]; exact a_add rfl e1 (by omega) (by omega)
              refine ih2 x58 0 z54 cm54 s54 l54 w54 (by omega) (by omega) ?_ (Or.inl rfl) (by rw [e00]; omega)
              rw [i58]
              exact Fnd_skip (by omega) hF2 hskip
            have h53b : ∀ z54 : St, CM z54 zm (pS st oj v8.toNatClampNeg) (pG bg oj d v8.toNatClampNeg) → Same [21] SR z z54 → z54.2.2 = z1.2.2 → gF z54 23 = gF z11 23 → MBg zm (pS st oj v8.toNatClampNeg) (pG bg oj d v8.toNatClampNeg) (oj v8.toNatClampNeg) v15.toInt → (v6 = 1 → v7.toInt + (ctM zm (oj v8.toNatClampNeg) v15.toNatClampNeg).toInt + (gG z1 22 (v8.toNatClampNeg + 1)).toInt < v5.toInt) → K53 1 z54 := by
              intro z54 cm54 s54 l54 w54 hmb hpr
              refine hK53 1 z54 ?_
              intro K57 hK57
              refine ⟨fun q => absurd q (by decide), fun _ => hK57 _ _ (fun x58 e58 => ?_)⟩
              have e58' : x58 = v15 := by rw [e58, Int32.add_zero]
              rw [e58']
              exact ih2 v15 1 z54 cm54 s54 l54 w54 d0 d1 hF2 (Or.inr ⟨rfl, c', hmb, hpr⟩) (by rw [e1]; omega)
            intro K60 hK60 K62 hK62
            have h62 : (v6 = 1 → v7.toInt + (ctM zm (oj v8.toNatClampNeg) v15.toNatClampNeg).toInt + (gG z1 22 (v8.toNatClampNeg + 1)).toInt < v5.toInt) → K62 := by
              intro hpr
              refine hK62 ?_
              refine CM_mb cm18 f14.1 (by omega) (fun mb z63 cm63 s63 l63 => ?_) (fun mb z63 cm63 s63 l63 => ?_)
              · rw [ex14] at mb
                exact ⟨fun q => absurd q (by decide), fun _ => h53b z63 cm63 (s18.tr s63 (by decide) (by decide)) (l63.trans l18) ((s63.2 23 (by decide)).trans w23) mb hpr⟩
              · rw [ex14] at mb
                exact ⟨fun _ => hK60 z63 (h53a z63 cm63 (s18.tr s63 (by decide) (by decide)) (l63.trans l18) ((s63.2 23 (by decide)).trans w23) (Or.inl mb)), fun q => absurd rfl q⟩
            have iv1 : (v8 + (1 : Int32)).toInt = v8.toInt + 1 := a_add rfl e1 (by omega) (by omega)
            have cv1 := clampN (x := v8 + (1 : Int32)) (by omega)
            have ev1 : (v8 + (1 : Int32)).toNatClampNeg = v8.toNatClampNeg + 1 := by omega
            have e22 : gG z18 22 = gG z1 22 := by show z18.2.2.2 22 = z1.2.2.2 22; rw [l18]
            have hlb := ck.2.2.2 (v8.toNatClampNeg + 1) (by omega)
            refine ⟨fun c6 => h62 (fun q => absurd (c6.symm.trans q) (by decide)), fun c6 => ⟨vin iv1 (by omega) (by omega), ?_⟩⟩
            have h61 : v6 = 1 := by
              rcases h01 with q | q
              · exact absurd q c6
              · exact q
            rw [e22, ev1]
            have is : (x51 + gG z1 22 (v8.toNatClampNeg + 1)).toInt = v7.toInt + (ctM zm (oj v8.toNatClampNeg) v15.toNatClampNeg).toInt + (gG z1 22 (v8.toNatClampNeg + 1)).toInt := a_addL i51 rfl (by omega) (by omega)
            refine ⟨fun cl => hK60 z18 (h53a z18 cm18 s18 l18 w23 (Or.inr ⟨h61, fun c hc hpre hci => ?_⟩)), fun cl => h62 (fun _ => ?_)⟩
            · have hnl : ¬ (x51 + gG z1 22 (v8.toNatClampNeg + 1)).toInt < v5.toInt := fun q => Int32.not_lt.mpr cl (lgc_lt.mpr q)
              have hrest := co_rest tm ck hc (n - (v8.toNatClampNeg + 1)) (v8.toNatClampNeg + 1) (by omega)
              have e : coF zm oj c (v8.toNatClampNeg + 1) = coF zm oj d v8.toNatClampNeg + (ctM zm (oj v8.toNatClampNeg) v15.toNatClampNeg).toInt := by
                show coF zm oj c v8.toNatClampNeg + _ = _
                rw [coF_co _ hpre, show c v8.toNatClampNeg = v15 from toI_inj hci]
              omega
            · have := lgc_lt.mp (Int32.not_le.mp cl)
              omega
        exact L2 _ v9 0 z11 cm11 s11 l11 rfl (Int.le_refl _) ge2 hF (Or.inl rfl) (Nat.lt_succ_self _)
    refine ⟨fun hb => ?_, fun hb => hk _ z1 cm1 s1' (Or.inr ⟨fun _ => 0, ⟨fun k hk' => ?_, fun c hc => ⟨fun ⟨k, q, _⟩ => ?_, fun _ => ?_⟩⟩, ?_, fun k hk' => ?_⟩)⟩
    · have hb' := i_ne hn e00 hb
      have hs := hs3 (by omega)
      refine L _ _ _ _ 0 s3 z1 (fun _ => 0) cm1 s1' rfl (by rw [e00]; omega) (by rw [e00]; omega) (fun k hk' => absurd hk' (Nat.not_lt_zero _)) (Or.inl rfl) rfl ?_ (by rw [hs]; exact Int.le_refl _) (by rw [hs]; exact wnd (oj 0)) (Nat.lt_succ_self _)
      refine ⟨fun q => absurd q (by decide), fun c hc ha => ?_⟩
      rcases ha with ⟨k, q, _⟩ | ⟨_, q⟩
      · exact absurd q (Nat.not_lt_zero _)
      · have := (hc 0 (by omega)).2.1
        have q' : (c 0).toInt < s3.toInt := q
        omega
    all_goals have hn0 : n = 0 := by have := i_eq hn e00 hb; omega
    · omega
    · omega
    · rw [hn0]; exact Int.le_refl _
    · rw [hn0]; rfl
    · omega
  refine ⟨fun hb => ⟨vin rfl (by decide) (by decide), ?_, h4 _ (fun hp => ?_)⟩, fun hb => h4 _ (fun q => absurd (i_eq hn e00 hb) (by omega))⟩
  · rw [u18]; exact vin rfl (b18 _).1 (by have := (b18 (0 : Int32).toNatClampNeg).2; omega)
  · rw [u18, u7]
    show (gF zm 7 (gF z 18 0).toNatClampNeg).toInt = _
    rw [(ho 0 hp).1]
