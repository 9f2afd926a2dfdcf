-- PREPARED: the pairs matched, the places thinned, the least of all
theorem FT_co {z z2 : St} {i j : Nat} {M : Nat → Nat → Prop} (h : FT z i j M) (e : ∀ p, p < 24 → gF z2 29 ((24 * i + p) * 5 + j) = gF z 29 ((24 * i + p) * 5 + j) ∧ gF z2 29 ((24 * j + p) * 5 + i) = gF z 29 ((24 * j + p) * 5 + i)) : FT z2 i j M := by
  intro p q hp hq
  rw [(e p hp).1, (e q hq).2]
  exact h p q hp hq
theorem SDi_mv {z z2 zm : St} {st bg : Nat → Int32} {oj : Nat → Nat} {i L : Nat} {I F : List Nat} (h : SDi z zm st bg oj i L) (s : Same I F z z2) (h25 : 25 ∉ F) (h26 : 26 ∉ F) (h27 : 27 ∉ F) (h30 : 30 ∉ F) (h28 : gG z2 28 = gG z 28) : SDi z2 zm st bg oj i L := by
  unfold SDi
  rw [s.2 25 h25, s.2 26 h26, s.2 27 h27, s.2 30 h30, h28]
  exact h
theorem SD_mv {z z2 zm : St} {st bg : Nat → Int32} {oj : Nat → Nat} {n : Nat} {I F : List Nat} (h : SD z zm st bg oj n) (s : Same I F z z2) (hI : 2213 ∉ I) (h23 : 23 ∉ F) (h25 : 25 ∉ F) (h26 : 26 ∉ F) (h27 : 27 ∉ F) (h30 : 30 ∉ F) (h28 : gG z2 28 = gG z 28) : SD z2 zm st bg oj n := by
  refine ⟨by rw [s.1 2213 hI]; exact h.1, fun i hi => by rw [s.2 23 h23]; exact h.2.1 i hi, fun i hi => SDi_mv (h.2.2 i hi) s h25 h26 h27 h30 h28⟩
theorem GD_mv {z z2 zm : St} {st bg : Nat → Int32} {oj : Nat → Nat} {n : Nat} (h : GD z zm st bg oj n) (e : ∀ j, j < n → gF z2 30 j = gF z 30 j) : GD z2 zm st bg oj n := by
  refine ⟨fun j hj q hq hb => ?_, fun pc hpc j hj => ?_⟩
  · rw [e j hj] at hb; exact h.1 j hj q hq hb
  · rw [e j hj]; exact h.2 pc hpc j hj
theorem G28 {z z2 : St} (h : z2.2.2 = z.2.2) (k : Nat) : gG z2 k = gG z k := by
  show z2.2.2.2 k = z.2.2.2 k
  rw [h]
set_option maxHeartbeats 2000000 in
theorem v_X6_prepare (z zm : St) (P : Int32 → St → Prop) (st bg : Nat → Int32) (oj : Nat → Nat) (n : Nat) (en : EN zm st bg oj n) (ht : TX z) (cp : CP z zm st bg) (sd : SD z zm st bg oj n) (h29 : ∀ x, x < 600 → gF z 29 x = 0) (hk : ∀ (r : Int32) (z2 : St), Same [] [29, 30] z z2 → WS z2 zm st bg oj n → GD z2 zm st bg oj n → ((r = 1 ∧ (∀ i, i < n → ¬ gF z2 30 i = 0) ∧ gG z2 31 0 = sL (fun j => loV z2 j (gF z2 30 j)) 0 n) ∨ (r = 0 ∧ ∀ pc, ¬ FeB zm st bg oj n pc)) → P r z2) : wp_X6_prepare_34 z P := by
  obtain ⟨tm, bb, hh, pb, hr, h5, ho, bd, rm⟩ := id en
  have f12 : 0 ≤ (gI zm 12).toInt ∧ (gI zm 12).toInt ≤ 16 := tm.1 12
  have e00 : (0 : Int32).toInt = 0 := rfl
  have e1 : (1 : Int32).toInt = 1 := rfl
  obtain ⟨hn, h23, hsd⟩ := id sd
  have ho' : ∀ k, k < n → oj k < 16 ∧ ((oj k : Nat) : Int) < (gI zm 12).toInt := fun k hk' => ⟨by have := (ho k hk').1; omega, (ho k hk').1⟩
  have hv06 : vp_in (0 : Int32) 6 := vin e00 (by decide) (by decide)
  unfold wp_X6_prepare_34
  intro K2 hK2
  have L2 : ∀ (m : Nat) (v1 : Int32) (z3 : St), TX z3 → Same [] [29] z z3 → z3.2.2 = z.2.2 → 0 ≤ v1.toInt → v1.toInt ≤ (n : Int) → (∀ i j, i < j → j < n → FT z3 i j (fun p q => i < v1.toNatClampNeg ∧ MP zm st bg oj i j p q)) → (5 - v1.toInt).toNat < m → K2 v1 z3 := by
    intro m
    induction m with
    | zero => intro v1 z3 _ _ _ _ _ _ q; omega
    | succ m ih =>
      intro v1 z3 t3 s3 l3 g0 g1 ft3 gm
      have cv1 := clampN g0
      have rs3 : gI z3 2213 = gI z 2213 := s3.1 2213 (by decide)
      refine hK2 v1 z3 ⟨fun c => ?_, fun c => ?_⟩
      · rw [rs3] at c
        have c' := i_le hn rfl c
        have sd3 : SD z3 zm st bg oj n := SD_mv sd s3 (by decide) (by decide) (by decide) (by decide) (by decide) (by decide) (G28 l3 28)
        have cp3 : CP z3 zm st bg := CP_st cp s3 (by decide) (by decide)
        have ws3 : WS z3 zm st bg oj n := ⟨t3, sd3.1, cp3.1, fun i hi => ⟨sd3.2.1 i hi, SDi_r (sd3.2.2 i hi)⟩, fun i j hij hj => FT_iff (ft3 i j hij hj) (fun p q _ _ => ⟨fun h => h.2, fun h => ⟨by omega, h⟩⟩)⟩
        have gd3 : GD z3 zm st bg oj n := by
          refine ⟨fun j hj q hq hb => ((sd3.2.2 j hj).2.2.2.2.2.2.2.2 q hq).mp hb, fun pc hpc j hj => ?_⟩
          have h24 := hpc.1 j hj
          exact ((sd3.2.2 j hj).2.2.2.2.2.2.2.2 (pc j) (by omega)).mpr ⟨h24, (FeB_mp en hpc).1 j hj⟩
        intro K7 hK7
        have L7 : ∀ (k : Nat) (v5 v6 : Int32) (z8 : St), Same [] [29, 30] z z8 → WS z8 zm st bg oj n → GD z8 zm st bg oj n → 0 ≤ v6.toInt → v6.toInt ≤ 120 → (120 - v6.toInt).toNat < k → K7 v5 v6 z8 := by
          intro k
          induction k with
          | zero => intro v5 v6 z8 _ _ _ _ _ q; omega
          | succ k ihk =>
            intro v5 v6 z8 s8 ws8 gd8 k0 k1 km
            refine hK7 v5 v6 z8 ?_
            intro K9 hK9
            have h9 : K9 := by
              refine hK9 ⟨hv06, ?_⟩
              intro z10 e10 K12 hK12
              have rs8 := ws8.2.1
              have L12 : ∀ (d : Nat) (v11 : Int32) (z13 : St), TX z13 → Same [] [] z8 z13 → gG z13 28 = gG z8 28 → 0 ≤ v11.toInt → v11.toInt ≤ (n : Int) → (∀ i : Nat, (i : Int) < v11.toInt → ¬ gF z8 30 i = 0) → gG z13 31 0 = sL (fun j => loV z8 j (gF z8 30 j)) 0 v11.toNatClampNeg → (5 - v11.toInt).toNat < d → K12 v11 z13 := by
                intro d
                induction d with
                | zero => intro v11 z13 _ _ _ _ _ _ _ q; omega
                | succ d ihd =>
                  intro v11 z13 t13 s13 l13 d0 d1 hnz hsum dm
                  have cv11 := clampN d0
                  have rs13 : gI z13 2213 = gI z8 2213 := s13.1 2213 (by decide)
                  have r30 : gF z13 30 = gF z8 30 := s13.2 30 (by decide)
                  have lo13 : ∀ (j : Nat) (b : Int32), loV z13 j b = loV z8 j b := fun j b => loV_same s13 (by decide) (by decide) l13
                  have s13' : Same [] [29, 30] z z13 := s8.tr s13 (by decide) (by decide)
                  have ws13 : WS z13 zm st bg oj n := WS_mv ws8 t13 s13 l13 (by decide) (by decide)
                  have gd13 : GD z13 zm st bg oj n := GD_mv gd8 (fun j _ => by rw [r30])
                  refine hK12 v11 z13 ⟨fun cc => ?_, fun cc => ?_⟩
                  · rw [rs13] at cc
                    have cc' := i_le rs8 rfl cc
                    refine hk 1 z13 s13' ws13 gd13 (Or.inl ⟨rfl, fun i hi => by rw [r30]; exact hnz i (by omega), ?_⟩)
                    rw [hsum, show v11.toNatClampNeg = n by omega]
                    exact sL_co n (fun j _ _ => by rw [lo13, r30])
                  · rw [rs13] at cc
                    have cc' := i_nle rs8 rfl cc
                    have hv30 : vp_in v11 30 := vin rfl d0 (by omega)
                    refine ⟨hv30, fun cnz => ⟨hv06, hv30, ?_⟩, fun cz => ?_⟩
                    · refine v_X6_leastOf v11 _ z13 _ v11.toNatClampNeg t13 (nI_cl d0) (by omega) ⟨hv06, ?_⟩
                      intro z18 e18 x19 e19
                      have i19 : x19.toInt = v11.toInt + 1 := by rw [e19]; exact a_add rfl e1 (by omega) (by omega)
                      have c19 := clampN (x := x19) (by omega)
                      refine ihd x19 z18 (by rw [e18]; exact Ty_wL t13) (s13.l e18) (by rw [e18, gG_ne (by decide)]; exact l13) (by omega) (by omega) (fun i hi => ?_) ?_ (by omega)
                      · by_cases e : i = v11.toNatClampNeg
                        · rw [e, ← r30]; exact cnz
                        · exact hnz i (by omega)
                      · rw [e18, gG_wL, show x19.toNatClampNeg = v11.toNatClampNeg + 1 by omega]
                        show (if (0 : Nat) = (0 : Int32).toNatClampNeg then gG z13 31 (0 : Int32).toNatClampNeg + loV z13 v11.toNatClampNeg (gF z13 30 v11.toNatClampNeg) else gG z13 31 0) = sL (fun j => loV z8 j (gF z8 30 j)) 0 v11.toNatClampNeg + loV z8 (0 + v11.toNatClampNeg) (gF z8 30 (0 + v11.toNatClampNeg))
                        rw [if_pos (show (0 : Nat) = (0 : Int32).toNatClampNeg from rfl), lo13, r30, Nat.zero_add]
                        show gG z13 31 0 + _ = _
                        rw [hsum]
                    · refine hk 0 z13 s13' ws13 gd13 (Or.inr ⟨rfl, fun pc hpc => ?_⟩)
                      have b := gd13.2 pc hpc v11.toNatClampNeg (by omega)
                      rw [cz] at b
                      exact bt_no b
              refine L12 6 0 z10 (by rw [e10]; exact Ty_wL ws8.1) (Same.rf.l e10) (by rw [e10, gG_ne (by decide)]) (by decide) (by omega) (fun i hi => by omega) ?_ (by decide)
              rw [e10, gG_wL]
              rfl
            refine ⟨fun _ => h9, fun _ => ⟨fun _ => h9, fun c120 => ?_⟩⟩
            have c120' := i_nle (p := 120) rfl rfl c120
            refine v_X6_thinOut z8 zm _ st bg oj n en ws8 gd8 (fun r23 z22 t22 s22 l22 gd22 => ?_)
            intro x24 e24
            have i24 : x24.toInt = v6.toInt + 1 := by rw [e24]; exact a_add rfl e1 (by omega) (by omega)
            exact ihk r23 x24 z22 (s8.tr s22 (by decide) (by decide)) (WS_mv ws8 t22 s22 (G28 l22 28) (by decide) (by decide)) gd22 (by omega) (by omega) (by omega)
        exact L7 121 1 0 z3 (Same.tr (z1 := z) Same.rf s3 (by decide) (by decide)) ws3 gd3 (by decide) (by decide) (by decide)
      · rw [rs3] at c
        have c' := i_nle hn rfl c
        intro K26 hK26
        have L26 : ∀ (k : Nat) (v25 : Int32) (z27 : St), TX z27 → Same [] [29] z z27 → z27.2.2 = z.2.2 → v1.toInt < v25.toInt → v25.toInt ≤ (n : Int) → (∀ i j, i < j → j < n → FT z27 i j (fun p q => (i < v1.toNatClampNeg ∨ (i = v1.toNatClampNeg ∧ j < v25.toNatClampNeg)) ∧ MP zm st bg oj i j p q)) → (5 - v25.toInt).toNat < k → K26 v25 z27 := by
          intro k
          induction k with
          | zero => intro v25 z27 _ _ _ _ _ _ q; omega
          | succ k ihk =>
            intro v25 z27 t27 s27 l27 k0 k1 ft27 km
            have cv25 := clampN (x := v25) (by omega)
            have rs27 : gI z27 2213 = gI z 2213 := s27.1 2213 (by decide)
            refine hK26 v25 z27 ⟨fun cc => ?_, fun cc => ?_⟩
            · rw [rs27] at cc
              have cc' := i_le hn rfl cc
              intro x29 e29
              have i29 : x29.toInt = v1.toInt + 1 := by rw [e29]; exact a_add rfl e1 (by omega) (by omega)
              have c29 := clampN (x := x29) (by omega)
              refine ih x29 z27 t27 s27 l27 (by omega) (by omega) (fun i j hij hj => FT_iff (ft27 i j hij hj) (fun p q _ _ => ⟨fun h => ⟨by omega, h.2⟩, fun h => ⟨by omega, h.2⟩⟩)) (by omega)
            · rw [rs27] at cc
              have cc' := i_nle hn rfl cc
              have sd27 : SD z27 zm st bg oj n := SD_mv sd s27 (by decide) (by decide) (by decide) (by decide) (by decide) (by decide) (G28 l27 28)
              have cp27 : CP z27 zm st bg := CP_st cp s27 (by decide) (by decide)
              refine v_X6_matchPair v1 v25 z27 zm _ st bg oj n v1.toNatClampNeg v25.toNatClampNeg t27 tm bb pb cp27 sd27 h5 (by omega) (by omega) (by omega) ho' (nI_cl g0) (nI_cl (by omega)) ?_ (fun z30 t30 s30 l30 ft30 fr30 => ?_)
              · exact FT_iff (ft27 v1.toNatClampNeg v25.toNatClampNeg (by omega) (by omega)) (fun p q _ _ => ⟨fun h => by omega, fun h => h.elim⟩)
              · intro x32 e32
                have i32 : x32.toInt = v25.toInt + 1 := by rw [e32]; exact a_add rfl e1 (by omega) (by omega)
                have c32 := clampN (x := x32) (by omega)
                refine ihk x32 z30 t30 (s27.tr s30 (by decide) (by decide)) (l30.trans l27) (by omega) (by omega) (fun i j hij hj => ?_) (by omega)
                by_cases e : i = v1.toNatClampNeg ∧ j = v25.toNatClampNeg
                · obtain ⟨ea, eb⟩ := e
                  subst ea; subst eb
                  exact FT_iff ft30 (fun p q _ _ => ⟨fun h => ⟨by omega, h⟩, fun h => h.2⟩)
                · refine FT_iff (FT_co (ft27 i j hij hj) (fun p hp => ⟨fr30 _ (fun p' hp' => ?_), fr30 _ (fun p' hp' => ?_)⟩)) (fun p q _ _ => ⟨fun h => ⟨by omega, h.2⟩, fun h => ⟨by omega, h.2⟩⟩)
                  · constructor <;> omega
                  · constructor <;> omega
        intro x33 e33
        have i33 : x33.toInt = v1.toInt + 1 := by rw [e33]; exact a_add rfl e1 (by omega) (by omega)
        have c33 := clampN (x := x33) (by omega)
        exact L26 6 x33 z3 t3 s3 l3 (by omega) (by omega) (fun i j hij hj => FT_iff (ft3 i j hij hj) (fun p q _ _ => ⟨fun h => ⟨by omega, h.2⟩, fun h => ⟨by omega, h.2⟩⟩)) (by omega)
  refine L2 6 0 z ht Same.rf rfl (by decide) (by omega) (fun i j hij hj p q hp hq => ?_) (by decide)
  have hf : ¬ (i < (0 : Int32).toNatClampNeg ∧ MP zm st bg oj i j p q) := fun h => by
    have : (0 : Int32).toNatClampNeg = 0 := rfl
    omega
  rw [h29 _ (by omega), h29 _ (by omega)]
  exact ⟨⟨fun h => absurd h bt_no, fun h => absurd h hf⟩, ⟨fun h => absurd h bt_no, fun h => absurd h hf⟩⟩
