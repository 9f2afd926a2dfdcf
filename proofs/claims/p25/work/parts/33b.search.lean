-- THE REFERENCE'S SEARCH ENDS: the places taken, read as digits, grow
def dD (z zz : St) (k : Nat) : Int := (gF zz 12 (gF z 18 k).toNatClampNeg).toInt - (gF z 7 (gF z 18 k).toNatClampNeg).toInt
def vV (d : Nat → Int) (i : Nat) (e : Int) : Int := match i with
  | 0 => e * 456976
  | 1 => d 0 * 456976 + e * 17576
  | 2 => d 0 * 456976 + d 1 * 17576 + e * 676
  | 3 => d 0 * 456976 + d 1 * 17576 + d 2 * 676 + e * 26
  | _ => d 0 * 456976 + d 1 * 17576 + d 2 * 676 + d 3 * 26 + e
theorem five (i : Nat) (h : i ≤ 4) : i = 0 ∨ i = 1 ∨ i = 2 ∨ i = 3 ∨ i = 4 := by omega
theorem vV_bd {d : Nat → Int} {i : Nat} {e : Int} (hi : i ≤ 4) (hd : ∀ k, k < i → 0 ≤ d k ∧ d k ≤ 23) (h0 : 0 ≤ e) (h1 : e ≤ 24) : 0 ≤ vV d i e ∧ vV d i e ≤ 11881376 := by
  rcases five i hi with q | q | q | q | q <;> subst q
  · show 0 ≤ e * 456976 ∧ e * 456976 ≤ 11881376; omega
  · have a0 := hd 0 (by omega)
    show 0 ≤ d 0 * 456976 + e * 17576 ∧ d 0 * 456976 + e * 17576 ≤ 11881376; omega
  · have a0 := hd 0 (by omega); have a1 := hd 1 (by omega)
    show 0 ≤ d 0 * 456976 + d 1 * 17576 + e * 676 ∧ d 0 * 456976 + d 1 * 17576 + e * 676 ≤ 11881376; omega
  · have a0 := hd 0 (by omega); have a1 := hd 1 (by omega); have a2 := hd 2 (by omega)
    show 0 ≤ d 0 * 456976 + d 1 * 17576 + d 2 * 676 + e * 26 ∧ d 0 * 456976 + d 1 * 17576 + d 2 * 676 + e * 26 ≤ 11881376; omega
  · have a0 := hd 0 (by omega); have a1 := hd 1 (by omega); have a2 := hd 2 (by omega); have a3 := hd 3 (by omega)
    show 0 ≤ d 0 * 456976 + d 1 * 17576 + d 2 * 676 + d 3 * 26 + e ∧ d 0 * 456976 + d 1 * 17576 + d 2 * 676 + d 3 * 26 + e ≤ 11881376; omega
theorem vV_deep {d d' : Nat → Int} {i : Nat} {e e' : Int} (hi : i ≤ 3) (hd : ∀ k, k < i → d' k = d k) (h : d' i = e') (h1 : e ≤ e') : vV d i e ≤ vV d' (i + 1) 0 := by
  rcases five i (by omega) with q | q | q | q | q <;> subst q
  · show e * 456976 ≤ d' 0 * 456976 + 0 * 17576; omega
  · have a0 := hd 0 (by omega)
    show d 0 * 456976 + e * 17576 ≤ d' 0 * 456976 + d' 1 * 17576 + 0 * 676; omega
  · have a0 := hd 0 (by omega); have a1 := hd 1 (by omega)
    show d 0 * 456976 + d 1 * 17576 + e * 676 ≤ d' 0 * 456976 + d' 1 * 17576 + d' 2 * 676 + 0 * 26; omega
  · have a0 := hd 0 (by omega); have a1 := hd 1 (by omega); have a2 := hd 2 (by omega)
    show d 0 * 456976 + d 1 * 17576 + d 2 * 676 + e * 26 ≤ d' 0 * 456976 + d' 1 * 17576 + d' 2 * 676 + d' 3 * 26 + 0; omega
  · omega
theorem vV_next {d d' : Nat → Int} {i : Nat} {e e' : Int} (hi : i ≤ 4) (hd : ∀ k, k < i → d' k = d k) (h1 : e < e') : vV d i e < vV d' i e' := by
  rcases five i hi with q | q | q | q | q <;> subst q
  · show e * 456976 < e' * 456976; omega
  · have a0 := hd 0 (by omega)
    show d 0 * 456976 + e * 17576 < d' 0 * 456976 + e' * 17576; omega
  · have a0 := hd 0 (by omega); have a1 := hd 1 (by omega)
    show d 0 * 456976 + d 1 * 17576 + e * 676 < d' 0 * 456976 + d' 1 * 17576 + e' * 676; omega
  · have a0 := hd 0 (by omega); have a1 := hd 1 (by omega); have a2 := hd 2 (by omega)
    show d 0 * 456976 + d 1 * 17576 + d 2 * 676 + e * 26 < d' 0 * 456976 + d' 1 * 17576 + d' 2 * 676 + e' * 26; omega
  · have a0 := hd 0 (by omega); have a1 := hd 1 (by omega); have a2 := hd 2 (by omega); have a3 := hd 3 (by omega)
    show d 0 * 456976 + d 1 * 17576 + d 2 * 676 + d 3 * 26 + e < d' 0 * 456976 + d' 1 * 17576 + d' 2 * 676 + d' 3 * 26 + e'; omega
theorem vV_back {d d' : Nat → Int} {i j : Nat} {e : Int} (hi : i ≤ 4) (hj : i = j + 1) (hd : ∀ k, k < i → d' k = d k) (h1 : e ≤ 24) : vV d i e < vV d' j (d' j + 1) := by
  rcases five i hi with q | q | q | q | q <;> subst q
  · omega
  · have : j = 0 := by omega
    subst this
    have a0 := hd 0 (by omega)
    show d 0 * 456976 + e * 17576 < (d' 0 + 1) * 456976; omega
  · have : j = 1 := by omega
    subst this
    have a0 := hd 0 (by omega); have a1 := hd 1 (by omega)
    show d 0 * 456976 + d 1 * 17576 + e * 676 < d' 0 * 456976 + (d' 1 + 1) * 17576; omega
  · have : j = 2 := by omega
    subst this
    have a0 := hd 0 (by omega); have a1 := hd 1 (by omega); have a2 := hd 2 (by omega)
    show d 0 * 456976 + d 1 * 17576 + d 2 * 676 + e * 26 < d' 0 * 456976 + d' 1 * 17576 + (d' 2 + 1) * 676; omega
  · have : j = 3 := by omega
    subst this
    have a0 := hd 0 (by omega); have a1 := hd 1 (by omega); have a2 := hd 2 (by omega); have a3 := hd 3 (by omega)
    show d 0 * 456976 + d 1 * 17576 + d 2 * 676 + d 3 * 26 + e < d' 0 * 456976 + d' 1 * 17576 + d' 2 * 676 + (d' 3 + 1) * 26; omega
abbrev SR : List Nat := [11, 12, 13, 23]
theorem s_X9_search (b1 : Int32) (z : St) (P : Int64 → St → Prop) (ht : TM z) (hrm : RM z) (h0 : 0 ≤ b1.toInt ∧ b1.toInt ≤ 5) (hd : ∀ k k' : Nat, k < k' → (k' : Int) < b1.toInt → (gF z 18 k).toInt < (gF z 18 k').toInt) (hk : ∀ (r : Int64) (z2 : St), TM z2 → Same [21] SR z z2 → P r z2) : wp_X9_search b1 z P := by
  have e00 : (0 : Int32).toInt = 0 := rfl
  have e24 : (24 : Int32).toInt = 24 := rfl
  have e1 : (1 : Int32).toInt = 1 := rfl
  have b18 : ∀ k, 0 ≤ (gF z 18 k).toInt ∧ (gF z 18 k).toInt ≤ 15 := fun k => ht.2 18 k
  have b7 : ∀ k, 0 ≤ (gF z 7 k).toInt ∧ (gF z 7 k).toInt ≤ 167 := fun k => ht.2 7 k
  have hne : ∀ k k' : Nat, k < k' → (k' : Int) < b1.toInt → (gF z 18 k).toNatClampNeg ≠ (gF z 18 k').toNatClampNeg := by
    intro k k' h1 h2 q
    have c1 := clampN (b18 k).1
    have c2 := clampN (b18 k').1
    have := hd k k' h1 h2
    omega
  unfold wp_X9_search
  refine s_X9_findLeast _ _ _ ht hrm h0 (fun z1 t1 s1 _ _ => ?_)
  have s1' : Same [21] SR z z1 := Same.tr (z1 := z) Same.rf s1 (by decide) (by decide)
  have u18 : gF z1 18 = gF z 18 := s1.2 18 (by decide)
  have u7 : gF z1 7 = gF z 7 := s1.2 7 (by decide)
  intro K4 hK4
  have h4 : ∀ s3 : Int32, (b1.toInt ≠ 0 → s3.toInt = (gF z 7 (gF z 18 0).toNatClampNeg).toInt) → K4 s3 := by
    intro s3 hs3
    refine hK4 s3 ?_
    intro K10 hK10
    have hneg : ∀ (v5 : Int64) (v6 : Int32) (v7 : Int64) (v8 v9 : Int32) (zz : St), TM zz → Same [21] SR z zz → v8.toInt < 0 → K10 v5 v6 v7 v8 v9 zz := fun v5 v6 v7 v8 v9 zz tz sz hn => hK10 _ _ _ _ _ _ ⟨fun _ => ⟨fun _ => hk _ _ tz sz, fun _ => hk _ _ tz sz⟩, fun c => absurd (Int32.lt_iff_toInt_lt.mpr (by omega)) c⟩
    have L : ∀ (n : Nat) (v5 : Int64) (v6 : Int32) (v7 : Int64) (v8 v9 : Int32) (z11 : St), TM z11 → Same [21] SR z z11 → 0 ≤ v8.toInt → v8.toInt < b1.toInt → (∀ k : Nat, (k : Int) < v8.toInt → 0 ≤ dD z z11 k ∧ dD z z11 k ≤ 23) → (gF z 7 (gF z 18 v8.toNatClampNeg).toNatClampNeg).toInt ≤ v9.toInt → v9.toInt - (gF z 7 (gF z 18 v8.toNatClampNeg).toNatClampNeg).toInt ≤ 24 → (71288262 - (6 * vV (dD z z11) v8.toNatClampNeg (v9.toInt - (gF z 7 (gF z 18 v8.toNatClampNeg).toNatClampNeg).toInt) + v8.toInt)).toNat < n → K10 v5 v6 v7 v8 v9 z11 := by
      intro n
      induction n with
      | zero => intro v5 v6 v7 v8 v9 z11 _ _ _ _ _ _ _ q; omega
      | succ n ih =>
        intro v5 v6 v7 v8 v9 z11 t11 s11 g0 g1 gd ge1 ge2 gm
        have cv := clampN g0
        have r18 : gF z11 18 = gF z 18 := s11.2 18 (by decide)
        have r7 : gF z11 7 = gF z 7 := s11.2 7 (by decide)
        have r8 : gF z11 8 = gF z 8 := s11.2 8 (by decide)
        refine hK10 v5 v6 v7 v8 v9 z11 ⟨fun c => absurd (i_lt rfl rfl c) (by omega), fun _ => ⟨vin rfl g0 (by omega), ?_⟩⟩
        intro x14 e14
        rw [r18] at e14
        have hx14 := hrm x14.toNatClampNeg
        have f7 := b7 x14.toNatClampNeg
        have f8 : 0 ≤ (gF z 8 x14.toNatClampNeg).toInt ∧ (gF z 8 x14.toNatClampNeg).toInt ≤ 167 := ht.2 8 _
        have f14 : 0 ≤ x14.toInt ∧ x14.toInt ≤ 15 := by rw [e14]; exact b18 _
        rw [← e14] at ge1 ge2 gm
        have hv16 : vp_in x14 16 := vin rfl f14.1 (by omega)
        have m24 : ((24 : Int32) * v8).toInt = 24 * v8.toInt := a_mul rfl rfl (by omega) (by omega)
        have hbd := vV_bd (d := dD z z11) (i := v8.toNatClampNeg) (e := v9.toInt - (gF z 7 x14.toNatClampNeg).toInt) (by omega) (fun k hk' => gd k (by omega)) (by omega) (by omega)
        intro K17 hK17
        have L2 : ∀ (m : Nat) (v15 v16 : Int32) (z18 : St), TM z18 → Same [21] [13] z11 z18 → v9.toInt ≤ v15.toInt → v15.toInt - (gF z 7 x14.toNatClampNeg).toInt ≤ 24 → (v16 = 0 ∨ (v16 = 1 ∧ v15.toInt ≤ (gF z 8 x14.toNatClampNeg).toInt)) → (2 * (200 - v15.toInt) - v16.toInt).toNat < m → K17 v15 v16 z18 := by
          intro m
          induction m with
          | zero => intro v15 v16 z18 _ _ _ _ _ q; omega
          | succ m ih2 =>
            intro v15 v16 z18 t18 s18 d0 d1 d2 dm
            have s18' : Same [21] SR z z18 := s11.tr s18 (by decide) (by decide)
            have w18 : gF z18 18 = gF z 18 := s18'.2 18 (by decide)
            have w7 : gF z18 7 = gF z 7 := s18'.2 7 (by decide)
            have w8 : gF z18 8 = gF z 8 := s18'.2 8 (by decide)
            have w12 : gF z18 12 = gF z11 12 := s18.2 12 (by decide)
            refine hK17 v15 v16 z18 ⟨hv16, ?_⟩
            intro K19 hK19
            have h19 : K19 := by
              refine hK19 ?_
              intro K24 hK24
              have h24 : ∀ (v20 : Int64) (v21 : Int32) (v22 : Int64) (v23 : Int32) (z25 : St), TM z25 → Same [21] SR z z25 → v23.toInt < b1.toInt → (0 ≤ v23.toInt → (∀ k : Nat, (k : Int) ≤ v23.toInt → 0 ≤ dD z z25 k ∧ dD z z25 k ≤ 23) ∧ (71288262 - (6 * vV (dD z z25) v23.toNatClampNeg (dD z z25 v23.toNatClampNeg + 1) + v23.toInt)).toNat < n) → K24 v20 v21 v22 v23 z25 := by
                intro v20 v21 v22 v23 z25 t25 s25 k1 k2
                refine hK24 v20 v21 v22 v23 z25 ?_
                intro K28 hK28
                refine ⟨fun c => hK28 v22 v15 z25 (hneg _ _ _ _ _ _ t25 s25 (i_lt rfl rfl c)), fun c => ?_⟩
                have c' : 0 ≤ v23.toInt := i_nlt rfl rfl c
                have ⟨k3, k4⟩ := k2 c'
                have c23 := clampN c'
                have y18 : gF z25 18 = gF z 18 := s25.2 18 (by decide)
                have y7 : gF z25 7 = gF z 7 := s25.2 7 (by decide)
                refine ⟨vin rfl c' (by omega), ?_⟩
                intro x31 e31
                rw [y18] at e31
                have f31 : 0 ≤ x31.toInt ∧ x31.toInt ≤ 15 := by rw [e31]; exact b18 _
                have f731 := b7 x31.toNatClampNeg
                have hv31 : vp_in x31 16 := vin rfl f31.1 (by omega)
                have kd := k3 v23.toNatClampNeg (by omega)
                have ed : dD z z25 v23.toNatClampNeg = (gF z25 12 x31.toNatClampNeg).toInt - (gF z 7 x31.toNatClampNeg).toInt := by unfold dD; rw [← e31]
                rw [ed] at kd
                have n24 : ((24 : Int32) * v23).toInt = 24 * v23.toInt := a_mul rfl rfl (by omega) (by omega)
                refine ⟨hv31, hv31, vin (a_sub (a_add n24 rfl (by omega) (by omega)) (by rw [y7]) (by omega) (by omega)) (by omega) (by omega), ?_⟩
                intro x32 _
                refine ⟨hv31, ?_⟩
                intro z33 e33
                refine ⟨hv31, ?_⟩
                intro x34 e34
                have y12 : gF z33 12 = gF z25 12 := by rw [e33]; rfl
                have i34 : x34.toInt = (gF z25 12 x31.toNatClampNeg).toInt + 1 := by rw [e34, y12]; exact a_add rfl rfl (by omega) (by omega)
                have dd : dD z z33 = dD z z25 := by funext k; unfold dD; rw [y12]
                refine hK28 x32 x34 z33 (ih _ _ _ _ _ z33 (by rw [e33]; exact Ty_wR t25 trivial) (s25.r (by decide) e33) c' k1 (fun k hk' => by rw [dd]; exact k3 k (by omega)) ?_ ?_ ?_)
                · rw [← e31]; omega
                · rw [← e31]; omega
                · rw [← e31, dd, i34, show (gF z25 12 x31.toNatClampNeg).toInt + 1 - (gF z 7 x31.toNatClampNeg).toInt = dD z z25 v23.toNatClampNeg + 1 by omega]; exact k4
              refine ⟨fun c16 => ?_, fun c16 => ⟨hv16, ?_⟩⟩
              · intro x36 e36
                have i36 : x36.toInt = v8.toInt - 1 := by rw [e36]; exact a_add rfl (show (-1 : Int32).toInt = -1 from rfl) (by omega) (by omega)
                have dd : dD z z18 = dD z z11 := by funext k; unfold dD; rw [w12]
                refine h24 _ _ _ _ _ t18 s18' (by omega) (fun hp => ?_)
                have cx := clampN hp
                refine ⟨fun k hk' => by rw [dd]; exact gd k (by omega), ?_⟩
                have := vV_back (d := dD z z11) (d' := dD z z18) (i := v8.toNatClampNeg) (j := x36.toNatClampNeg) (e := v9.toInt - (gF z 7 x14.toNatClampNeg).toInt) (by omega) (by omega) (fun k _ => by rw [dd]) (by omega)
                omega
              · intro z37 e37
                have t37 : TM z37 := by rw [e37]; exact Ty_wR t18 trivial
                refine ⟨hv16, ?_⟩
                intro z38 e38
                have t38 : TM z38 := by rw [e38]; exact Ty_wR t37 trivial
                have s38 : Same [21] SR z z38 := (s18'.r (by decide) e37).r (by decide) e38
                have y18 : gF z38 18 = gF z 18 := s38.2 18 (by decide)
                have y7 : gF z38 7 = gF z 7 := s38.2 7 (by decide)
                have y12 : ∀ k, gF z38 12 k = if k = x14.toNatClampNeg then v15 else gF z11 12 k := by
                  intro k
                  rw [e38, gF_upd, e37]
                  show (if k = x14.toNatClampNeg then v15 else gF z18 12 k) = _
                  rw [w12]
                have hle : v15.toInt ≤ (gF z 8 x14.toNatClampNeg).toInt := by
                  rcases d2 with q | q
                  · exact absurd q c16
                  · exact q.2
                have dlt : ∀ k : Nat, k < v8.toNatClampNeg → dD z z38 k = dD z z11 k := by
                  intro k hk'
                  unfold dD
                  rw [y12, if_neg (by rw [e14]; exact hne k v8.toNatClampNeg hk' (by omega))]
                have deq : dD z z38 v8.toNatClampNeg = v15.toInt - (gF z 7 x14.toNatClampNeg).toInt := by
                  unfold dD
                  rw [y12, if_pos (by rw [e14]), ← e14]
                refine ⟨hv16, vin (a_sub (a_add m24 rfl (by omega) (by omega)) (by rw [y7]) (by omega) (by omega)) (by omega) (by omega), ?_⟩
                intro x39 _
                have ib : (b1 - (1 : Int32)).toInt = b1.toInt - 1 := a_sub rfl rfl (by omega) (by omega)
                refine ⟨fun c8 => ?_, fun c8 => ?_⟩
                · have c8' := i_ne rfl ib c8
                  intro x41 e41
                  have i41 : x41.toInt = v8.toInt + 1 := by rw [e41]; exact a_add rfl rfl (by omega) (by omega)
                  have c41 := clampN (x := x41) (by omega)
                  have g18 := b18 x41.toNatClampNeg
                  refine ⟨vin rfl (by omega) (by omega), by rw [y18]; exact vin rfl g18.1 (by omega), ?_⟩
                  intro x42 e42
                  rw [y18, y7] at e42
                  refine ih _ _ _ _ _ z38 t38 s38 (by omega) (by omega) (fun k hk' => ?_) (by rw [e42]; omega) (by rw [e42]; omega) ?_
                  · by_cases e : k = v8.toNatClampNeg
                    · rw [e, deq]; omega
                    · rw [dlt k (by omega)]; exact gd k (by omega)
                  · have := vV_deep (d := dD z z11) (d' := dD z z38) (i := v8.toNatClampNeg) (e := v9.toInt - (gF z 7 x14.toNatClampNeg).toInt) (e' := v15.toInt - (gF z 7 x14.toNatClampNeg).toInt) (by omega) dlt deq (by omega)
                    rw [show x41.toNatClampNeg = v8.toNatClampNeg + 1 by omega] at *
                    rw [e42, Int.sub_self]
                    omega
                · intro K44 hK44
                  have L3 : ∀ (p : Nat) (v43 : Int32) (z45 : St), TM z45 → Same [] [23] z38 z45 → 0 ≤ v43.toInt → v43.toInt ≤ 5 → (5 - v43.toInt).toNat < p → K44 v43 z45 := by
                    intro p
                    induction p with
                    | zero => intro v43 z45 _ _ _ _ q; omega
                    | succ p ih3 =>
                      intro v43 z45 t45 s45 q0 q1 qm
                      have s45' : Same [21] SR z z45 := s38.tr s45 (by decide) (by decide)
                      refine hK44 v43 z45 ⟨fun _ => ?_, fun c => ?_⟩
                      · have dd : dD z z45 = dD z z38 := by funext k; unfold dD; rw [s45.2 12 (by decide)]
                        refine h24 _ _ _ _ _ t45 s45' (by omega) (fun hp => ⟨fun k hk' => ?_, ?_⟩)
                        · rw [dd]
                          by_cases e : k = v8.toNatClampNeg
                          · rw [e, deq]; omega
                          · rw [dlt k (by omega)]; exact gd k (by omega)
                        · have := vV_next (d := dD z z11) (d' := dD z z45) (i := v8.toNatClampNeg) (e := v9.toInt - (gF z 7 x14.toNatClampNeg).toInt) (e' := dD z z45 v8.toNatClampNeg + 1) (by omega) (fun k hk' => by rw [dd]; exact dlt k hk') (by rw [dd, deq]; omega)
                          omega
                      · have c' := i_nle rfl rfl c
                        have g18 := b18 v43.toNatClampNeg
                        have hv5 : vp_in v43 5 := vin rfl q0 (by omega)
                        refine ⟨hv5, by rw [s45'.2 18 (by decide)]; exact vin rfl g18.1 (by omega), hv5, ?_⟩
                        intro z47 e47 x48 e48
                        have i48 : x48.toInt = v43.toInt + 1 := by rw [e48]; exact a_add rfl rfl (by omega) (by omega)
                        exact ih3 x48 z47 (by rw [e47]; exact Ty_wR t45 trivial) (s45.r (by decide) e47) (by omega) (by omega) (by omega)
                  exact L3 6 0 z38 t38 Same.rf (by omega) (by omega) (by omega)
            refine ⟨fun _ => h19, fun c => ⟨fun _ => h19, fun c16 => ?_⟩⟩
            have c' := i_nlt rfl rfl c
            rw [w8] at c'
            refine ⟨hv16, vin (a_sub (a_add m24 rfl (by omega) (by omega)) (by rw [w7]) (by omega) (by omega)) (by omega) (by omega), ?_⟩
            intro x51 _ K53 hK53
            have i16 : v16.toInt = 0 := by rw [c16]; rfl
            have h53 : ∀ (s52 : Int32) (z54 : St), TM z54 → Same [21] [13] z11 z54 → (s52 = 0 ∨ s52 = 1) → K53 s52 z54 := by
              intro s52 z54 t54 s54 hs
              refine hK53 s52 z54 ?_
              intro K57 hK57
              refine ⟨fun c52 => hK57 _ _ (fun x58 e58 => ?_), fun c52 => hK57 _ _ (fun x58 e58 => ?_)⟩
              · have i58 : x58.toInt = v15.toInt + 1 := by rw [e58]; exact a_add rfl rfl (by omega) (by omega)
                have i52 : s52.toInt = 0 := by rw [c52]; rfl
                exact ih2 x58 s52 z54 t54 s54 (by omega) (by omega) (Or.inl c52) (by omega)
              · have i58 : x58.toInt = v15.toInt + 0 := by rw [e58]; exact a_add rfl rfl (by omega) (by omega)
                have q : s52 = 1 := by
                  rcases hs with q | q
                  · exact absurd q c52
                  · exact q
                have i52 : s52.toInt = 1 := by rw [q]; rfl
                exact ih2 x58 s52 z54 t54 s54 (by omega) (by omega) (Or.inr ⟨q, by omega⟩) (by omega)
            intro K60 hK60
            have h60 : ∀ z61 : St, TM z61 → Same [21] [13] z11 z61 → K60 z61 := fun z61 t61 s61 => hK60 z61 (h53 0 z61 t61 s61 (Or.inl rfl))
            intro K62 hK62
            have h62 : K62 := by
              refine hK62 ?_
              refine s_X9_mayBegin _ _ _ _ t18 f14 (fun r64 z63 t63 s63 _ => ?_)
              have s63' : Same [21] [13] z11 z63 := s18.tr s63 (by decide) (by decide)
              exact ⟨fun _ => h60 z63 t63 s63', fun _ => h53 1 z63 t63 s63' (Or.inr rfl)⟩
            exact ⟨fun _ => h62, fun _ => ⟨vin (a_add rfl e1 (by omega) (by omega)) (by omega) (by omega), fun _ => h60 z18 t18 s18, fun _ => h62⟩⟩
        exact L2 ((2 * (200 - v9.toInt)).toNat + 1) v9 0 z11 t11 Same.rf (by omega) (by omega) (Or.inl rfl) (by omega)
    refine ⟨fun hb => ?_, fun _ => hk _ z1 t1 s1'⟩
    have hb' := i_ne rfl e00 hb
    have hs := hs3 hb'
    exact L _ _ _ _ 0 s3 z1 t1 s1' (by omega) (by omega) (fun k hk' => by omega) (by rw [hs]; exact Int.le_refl _) (by rw [hs]; show _ - (gF z 7 (gF z 18 0).toNatClampNeg).toInt ≤ 24; omega) (Nat.lt_succ_self _)
  refine ⟨fun hb => ⟨vin rfl (by decide) (by decide), ?_, h4 _ (fun _ => ?_)⟩, fun hb => h4 _ (fun q => absurd (by rw [hb]; rfl) q)⟩
  · rw [u18]; exact vin rfl (b18 _).1 (by have := (b18 (0 : Int32).toNatClampNeg).2; omega)
  · rw [u18, u7]; rfl
