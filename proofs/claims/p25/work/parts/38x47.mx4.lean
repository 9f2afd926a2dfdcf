-- CALLS OF BOTH SIDES: time goes on, loads, costs, savings, counts
def dN (st bg : Nat → Int32) (nw : Int) (o : Nat) : Int32 := if st o = 1 ∧ (bg o).toInt < nw then 2 else st o
theorem dN_z {st bg : Nat → Int32} {nw : Int} {o : Nat} : dN st bg nw o = 0 ↔ st o = 0 := by
  unfold dN
  by_cases c : st o = 1 ∧ (bg o).toInt < nw
  · rw [if_pos c, c.1]
    exact ⟨fun q => absurd q (by decide), fun q => absurd q (by decide)⟩
  · rw [if_neg c]
theorem drV_nz {r9 r10 st bg st' : Nat → Int32} {j : Nat} {t : Int32} (hj : j < 16) (hs : st' j = 0 ↔ st j = 0) : drV r9 r10 st' bg (nI j) t = drV r9 r10 st bg (nI j) t := by
  unfold drV
  rw [nI_clamp (by omega)]
  by_cases e : st j = 0
  · rw [if_pos e, if_pos (hs.mpr e)]
  · rw [if_neg e, if_neg (fun q => e (hs.mp q))]
theorem PE_nz {z : St} {n : Nat} {r6 r9 r10 st bg st' : Nat → Int32} (h : PE z n r6 r9 r10 st bg) (hn : n ≤ 16) (hs : ∀ o, o < n → (st' o = 0 ↔ st o = 0)) : PE z n r6 r9 r10 st' bg := by
  refine ⟨fun hh t h1 h2 => (h.1 hh t h1 h2).trans (sm_congr (fun i hi => ?_)), fun t h2 => (h.2 t h2).trans (sm_congr (fun i hi => ?_))⟩
  · unfold tH
    rw [drV_nz (by omega) (hs i hi)]
  · exact (drV_nz (by omega) (hs i hi)).symm
theorem v_X1_beginBefore (b1 : Int32) (z : St) (P : St → Prop) (ht : TX z) (hrx : RX z) (hk : ∀ z2 : St, TX z2 → RX z2 → Same [] [19] z z2 → (∀ o : Nat, (o : Int) < (gI z 1308).toInt → gF z2 19 o = dN (gF z 19) (gF z 20) b1.toInt o) → P z2) : wp_X1_beginBefore b1 z P := by
  have f : 0 ≤ (gI z 1308).toInt ∧ (gI z 1308).toInt ≤ 16 := ht.1 1308
  have e1 : (1 : Int32).toInt = 1 := rfl
  unfold wp_X1_beginBefore
  intro K2 hK2
  have L : ∀ (n : Nat) (v1 : Int32) (z3 : St), TX z3 → RX z3 → Same [] [19] z z3 → 0 ≤ v1.toInt → v1.toInt ≤ (gI z 1308).toInt → (∀ o : Nat, (o : Int) < v1.toInt → gF z3 19 o = dN (gF z 19) (gF z 20) b1.toInt o) → (∀ o : Nat, v1.toInt ≤ (o : Int) → gF z3 19 o = gF z 19 o) → (16 - v1.toInt).toNat < n → K2 v1 z3 := by
    intro n
    induction n with
    | zero => intro v1 z3 _ _ _ _ _ _ _ q; omega
    | succ n ih =>
      intro v1 z3 t3 x3 s3 g0 g1 hlo hhi gm
      have cv := clampN g0
      have r1308 : gI z3 1308 = gI z 1308 := s3.1 1308 (by decide)
      have r20 : gF z3 20 = gF z 20 := s3.2 20 (by decide)
      refine hK2 v1 z3 ⟨fun c => ?_, fun c => ?_⟩
      · rw [r1308] at c
        have c' := i_le rfl rfl c
        exact hk z3 t3 x3 s3 (fun o ho => hlo o (by omega))
      · rw [r1308] at c
        have c' := i_nle rfl rfl c
        have hv : vp_in v1 16 := vin rfl g0 (by omega)
        have h19 : gF z3 19 v1.toNatClampNeg = gF z 19 v1.toNatClampNeg := hhi _ (by omega)
        refine ⟨hv, ?_⟩
        rw [h19, r20]
        intro K5 hK5
        have next : ∀ z6 : St, TX z6 → RX z6 → Same [] [19] z z6 → (∀ o : Nat, (o : Int) < v1.toInt + 1 → gF z6 19 o = dN (gF z 19) (gF z 20) b1.toInt o) → (∀ o : Nat, v1.toInt + 1 ≤ (o : Int) → gF z6 19 o = gF z 19 o) → K5 z6 := by
          intro z6 t6 x6 s6 lo6 hi6
          refine hK5 z6 (fun x7 e7 => ?_)
          have i7 : x7.toInt = v1.toInt + 1 := by rw [e7]; exact a_add rfl e1 (by omega) (by omega)
          exact ih x7 z6 t6 x6 s6 (by omega) (by omega) (by rw [i7]; exact lo6) (by rw [i7]; exact hi6) (by omega)
        have same : ¬ (gF z 19 v1.toNatClampNeg = 1 ∧ (gF z 20 v1.toNatClampNeg).toInt < b1.toInt) → K5 z3 := by
          intro hn
          refine next z3 t3 x3 s3 (fun o ho => ?_) (fun o ho => hhi o (by omega))
          by_cases e : o = v1.toNatClampNeg
          · rw [e, h19]
            unfold dN
            rw [if_neg hn]
          · exact hlo o (by omega)
        refine ⟨fun c1 => same (fun q => c1 q.1), fun c1 => ⟨hv, fun c2 => same (fun q => ?_), fun c2 => ⟨hv, ?_⟩⟩⟩
        · have := i_le rfl rfl c2
          have := q.2
          omega
        · have c2' := i_nle rfl rfl c2
          intro z10 e10
          refine next z10 (by rw [e10]; exact Ty_wR t3 (show 0 ≤ (2 : Int32).toInt ∧ (2 : Int32).toInt ≤ 2 by decide)) (by rw [e10]; exact RX_done x3 (by rw [h19, c1]; rfl)) (s3.r (by decide) e10) (fun o ho => ?_) (fun o ho => ?_)
          · rw [e10, gF_upd]
            by_cases e : o = v1.toNatClampNeg
            · rw [if_pos e, e]
              unfold dN
              rw [if_pos ⟨c1, c2'⟩]
            · rw [if_neg e]; exact hlo o (by omega)
          · rw [e10, gF_upd, if_neg (by omega)]; exact hhi o (by omega)
  exact L 17 0 z ht hrx Same.rf (by decide) f.1 (fun o ho => absurd ho (by have : (0 : Int32).toInt = 0 := rfl; omega)) (fun _ _ => rfl) (by decide)
def GG (nw : Int) (b1 : Int32) : Prop := (1 ≤ b1.toInt ∧ b1.toInt ≤ 48) ∧ nw + b1.toInt ≤ 167
theorem v_X8_go (b1 : Int32) (z : St) (P : Int32 → St → Prop) (ht : TX z) (hrx : RX z) (hR : ¬ GG (gI z 2104).toInt b1 → ∀ (r : Int32) (z2 : St), TX z2 → Same [8] [] z z2 → P r z2) (hS : GG (gI z 2104).toInt b1 → ∀ (r : Int32) (z2 : St), TX z2 → RX z2 → Same [8, 2104] [5, 19] z z2 → gI z2 2104 = gI z 2104 + b1 → (∀ o : Nat, (o : Int) < (gI z 1308).toInt → gF z2 19 o = dN (gF z 19) (gF z 20) ((gI z 2104).toInt + b1.toInt) o) → (∀ t : Nat, t < 168 → gF z2 5 t = prF (gF z 2) (gF z 3) (gF z 4) (gI z 106) (nI t) (gI z 2104 + b1) (gI z 105).toNatClampNeg) → P r z2) : wp_X8_go b1 z P := by
  have f : 0 ≤ (gI z 2104).toInt ∧ (gI z 2104).toInt ≤ 167 := ht.1 2104
  unfold wp_X8_go
  intro K1 hK1
  have bad : ¬ GG (gI z 2104).toInt b1 → K1 := fun hb => hK1 (rf8 _ ht (hR hb))
  refine ⟨fun c => bad (fun g => ?_), fun c => ⟨fun c2 => bad (fun g => ?_), fun c2 => ?_⟩⟩
  · have := i_lt (q := 1) rfl rfl c
    have := g.1
    omega
  · have := i_lt (p := 48) rfl rfl c2
    have := g.1
    omega
  have d1 := i_nlt (q := 1) rfl rfl c
  have d2 := i_nlt (p := 48) rfl rfl c2
  have ia : (gI z 2104 + b1).toInt = (gI z 2104).toInt + b1.toInt := a_add rfl rfl (by omega) (by omega)
  refine ⟨fun c3 => ?_, fun c3 => bad (fun g => ?_)⟩
  · have d3 := i_lt (q := 168) ia rfl c3
    intro z7 e7
    have t7 : TX z7 := by rw [e7]; exact Ty_wI ht (show 0 ≤ (gI z 2104 + b1).toInt ∧ (gI z 2104 + b1).toInt ≤ 167 by omega)
    have s7 : Same [2104] [] z z7 := Same.rf.i (by decide) e7
    have x7 : RX z7 := RX_same hrx s7 (by decide) (by decide) (by decide) (by decide) (by decide) (by decide)
    have q7 : gI z7 2104 = gI z 2104 + b1 := by rw [e7]; rfl
    refine v_X1_beginBefore _ _ _ t7 x7 (fun z8 t8 x8 s8 h8 => ?_)
    rw [q7, ia, s7.1 1308 (by decide), s7.2 19 (by decide), s7.2 20 (by decide)] at h8
    have q8 : gI z8 2104 = gI z 2104 + b1 := (s8.1 2104 (by decide)).trans q7
    refine v_X3_lay_5 _ _ _ t8 (fun z10 t10 s10 g10 => ?_)
    rw [q8, s8.1 106 (by decide), s7.1 106 (by decide), s8.1 105 (by decide), s7.1 105 (by decide), s8.2 2 (by decide), s7.2 2 (by decide), s8.2 3 (by decide), s7.2 3 (by decide), s8.2 4 (by decide), s7.2 4 (by decide)] at g10
    have s10' : Same [8, 2104] [5, 19] z z10 := ((Same.tr (z1 := z) Same.rf s7 (by decide) (by decide)).tr s8 (by decide) (by decide)).tr s10 (by decide) (by decide)
    refine s_X8_accept _ _ _ t10 (fun r z3 t3 s3 _ => hS ⟨⟨d1, d2⟩, by omega⟩ r z3 t3 (RX_same (RX_same x8 s10 (by decide) (by decide) (by decide) (by decide) (by decide) (by decide)) s3 (by decide) (by decide) (by decide) (by decide) (by decide) (by decide)) (s10'.tr s3 (by decide) (by decide)) ?_ (fun o ho => ?_) (fun t h168 => ?_))
    · rw [s3.1 2104 (by decide), s10.1 2104 (by decide)]; exact q8
    · rw [s3.2 19 (by decide), s10.2 19 (by decide)]; exact h8 o ho
    · rw [s3.2 5 (by decide)]; exact g10 t h168
  · have := i_nlt (q := 168) ia rfl c3
    have := g.2
    omega
set_option maxHeartbeats 1000000 in
theorem v_X9_go (b1 : Int32) (z : St) (P : Int32 → St → Prop) (ht : TM z) (pn : ∀ o : Nat, (o : Int) < (gI z 12).toInt → gF z 11 o = 1 → (gI z 2).toInt ≤ (gF z 12 o).toInt) (hR : ¬ GG (gI z 2).toInt b1 → ∀ (r : Int32) (z2 : St), TM z2 → Same [0, 1] [] z z2 → P r z2) (hS : GG (gI z 2).toInt b1 → ∀ (r : Int32) (z2 : St), TM z2 → Same [0, 1, 2, 21] [11] z z2 → gI z2 2 = gI z 2 + b1 → gI z2 21 = 0 → (∀ o : Nat, (o : Int) < (gI z 12).toInt → gF z2 11 o = dN (gF z 11) (gF z 12) ((gI z 2).toInt + b1.toInt) o) → P r z2) : wp_X9_go b1 z P := by
  have f : 0 ≤ (gI z 2).toInt ∧ (gI z 2).toInt ≤ 167 := ht.1 2
  have f12 : 0 ≤ (gI z 12).toInt ∧ (gI z 12).toInt ≤ 16 := ht.1 12
  have e1' : (1 : Int32).toInt = 1 := rfl
  have e00 : (0 : Int32).toInt = 0 := rfl
  unfold wp_X9_go
  intro z1 e1
  have t1 : TM z1 := by rw [e1]; exact Ty_wI ht trivial
  have s1 : Same [0, 1] [] z z1 := Same.rf.i (by decide) e1
  have s1' : Same [0, 1, 2, 21] [11] z z1 := Same.tr (z1 := z) Same.rf s1 (by decide) (by decide)
  have y2 : gI z1 2 = gI z 2 := by rw [e1]; rfl
  refine s_X9_in _ _ _ _ _ t1 (fun r3 h3 => ?_)
  have h3' := in9 (p := 1) (q := 48) h3 rfl rfl
  intro K4 hK4
  have bad : ¬ GG (gI z 2).toInt b1 → K4 := fun hb => hK4 (rf9 _ t1 s1 (hR hb))
  refine ⟨fun c => bad (fun g => ?_), fun c => ?_⟩
  · have := or0 h3' c
    have := g.1
    omega
  have d := or1 h3' c
  have ia : (gI z 2 + b1).toInt = (gI z 2).toInt + b1.toInt := a_add rfl rfl (by omega) (by omega)
  rw [y2]
  refine ⟨fun c3 => ?_, fun c3 => bad (fun g => ?_)⟩
  · have d3 := i_le (q := 167) ia rfl c3
    have gg : GG (gI z 2).toInt b1 := ⟨d, d3⟩
    intro K10 hK10
    have L10 : ∀ (n : Nat) (v9 : Int32) (z11 : St), TM z11 → Same [0, 1, 2, 21] [11] z z11 → 0 ≤ v9.toInt → v9.toInt ≤ b1.toInt → (gI z11 2).toInt = (gI z 2).toInt + v9.toInt → (∀ o : Nat, (o : Int) < (gI z 12).toInt → gF z11 11 o = dN (gF z 11) (gF z 12) ((gI z 2).toInt + v9.toInt) o) → (48 - v9.toInt).toNat < n → K10 v9 z11 := by
      intro n
      induction n with
      | zero => intro v9 z11 _ _ _ _ _ _ q; omega
      | succ n ih =>
        intro v9 z11 t11 s11 g0 g1 hn11 hr11 gm
        refine hK10 v9 z11 ⟨fun cc => ?_, fun cc => ?_⟩
        · have cc' := i_le rfl rfl cc
          have ev : v9.toInt = b1.toInt := by omega
          rw [ev] at hn11 hr11
          intro z13 e13
          have t13 : TM z13 := by rw [e13]; exact Ty_wI t11 trivial
          have s13 : Same [0, 1, 2, 21] [11] z z13 := s11.i (by decide) e13
          refine s_X9_told _ _ _ t13 (fun r z3 t3 s3 _ => hS gg r z3 t3 (s13.tr s3 (by decide) (by decide)) ?_ ?_ (fun o ho => ?_))
          · refine toI_inj ?_
            rw [s3.1 2 (by decide), e13, ia]; exact hn11
          · rw [s3.1 21 (by decide), e13]; rfl
          · rw [s3.2 11 (by decide), e13]; exact hr11 o ho
        · have cc' := i_nle rfl rfl cc
          intro K17 hK17
          have L17 : ∀ (m : Nat) (v16 : Int32) (z18 : St), TM z18 → Same [0, 1, 2, 21] [11] z z18 → 0 ≤ v16.toInt → v16.toInt ≤ (gI z 12).toInt → (gI z18 2).toInt = (gI z 2).toInt + v9.toInt → (∀ o : Nat, (o : Int) < v16.toInt → gF z18 11 o = dN (gF z 11) (gF z 12) ((gI z 2).toInt + v9.toInt + 1) o) → (∀ o : Nat, v16.toInt ≤ (o : Int) → (o : Int) < (gI z 12).toInt → gF z18 11 o = dN (gF z 11) (gF z 12) ((gI z 2).toInt + v9.toInt) o) → (16 - v16.toInt).toNat < m → K17 v16 z18 := by
            intro m
            induction m with
            | zero => intro v16 z18 _ _ _ _ _ _ _ q; omega
            | succ m ihm =>
              intro v16 z18 t18 s18 k0 k1 hn18 lo18 hi18 km
              have cv := clampN k0
              have r12 : gI z18 12 = gI z 12 := s18.1 12 (by decide)
              have rb : gF z18 12 = gF z 12 := s18.2 12 (by decide)
              refine hK17 v16 z18 ⟨fun ce => ?_, fun ce => ?_⟩
              · rw [r12] at ce
                have ce' := i_le rfl rfl ce
                intro z20 e20 x21 e21
                have i20 : (gI z18 2 + (1 : Int32)).toInt = (gI z 2).toInt + v9.toInt + 1 := a_add hn18 e1' (by omega) (by omega)
                have i21 : x21.toInt = v9.toInt + 1 := by rw [e21]; exact a_add rfl e1' (by omega) (by omega)
                refine ih x21 z20 (by rw [e20]; exact Ty_wI t18 (show 0 ≤ (gI z18 2 + (1 : Int32)).toInt ∧ (gI z18 2 + (1 : Int32)).toInt ≤ 167 by omega)) (s18.i (by decide) e20) (by omega) (by omega) ?_ (fun o ho => ?_) (by omega)
                · rw [e20, i21]
                  show (gI z18 2 + (1 : Int32)).toInt = _
                  omega
                · rw [e20, i21, ← Int.add_assoc]
                  exact lo18 o (by omega)
              · rw [r12] at ce
                have ce' := i_nle rfl rfl ce
                have hv : vp_in v16 16 := vin rfl k0 (by omega)
                have hcur := hi18 v16.toNatClampNeg (by omega) (by omega)
                refine ⟨hv, ?_⟩
                rw [rb]
                intro K24 hK24
                have k24 : ∀ s22 : Int32, s22 = dN (gF z 11) (gF z 12) ((gI z 2).toInt + v9.toInt + 1) v16.toNatClampNeg → K24 s22 v16 := by
                  intro s22 h22
                  refine hK24 s22 v16 ⟨hv, ?_⟩
                  intro z25 e25 x26 e26
                  have i26 : x26.toInt = v16.toInt + 1 := by rw [e26]; exact a_add rfl e1' (by omega) (by omega)
                  refine ihm x26 z25 (by rw [e25]; exact Ty_wR t18 trivial) (s18.r (by decide) e25) (by omega) (by omega) (by rw [e25]; exact hn18) (fun o ho => ?_) (fun o ho1 ho2 => ?_) (by omega)
                  · rw [e25, gF_upd]
                    by_cases e : o = v16.toNatClampNeg
                    · rw [if_pos e, h22, e]
                    · rw [if_neg e]; exact lo18 o (by omega)
                  · rw [e25, gF_upd, if_neg (by omega)]; exact hi18 o (by omega) ho2
                intro K28 hK28
                have k28 : gF z18 11 v16.toNatClampNeg = dN (gF z 11) (gF z 12) ((gI z 2).toInt + v9.toInt + 1) v16.toNatClampNeg → K28 v16 := fun h => hK28 v16 ⟨hv, k24 _ h⟩
                refine ⟨fun c1 => k28 ?_, fun c1 => ⟨hv, fun c2 => k28 ?_, fun c2 => k24 2 ?_⟩⟩
                · -- not planned any more, or never
                  rw [hcur] at c1 ⊢
                  unfold dN at c1 ⊢
                  by_cases p : gF z 11 v16.toNatClampNeg = 1 ∧ (gF z 12 v16.toNatClampNeg).toInt < (gI z 2).toInt + v9.toInt
                  · rw [if_pos p, if_pos ⟨p.1, by omega⟩]
                  · rw [if_neg p] at c1
                    rw [if_neg p, if_neg (fun q => c1 q.1)]
                · rw [hcur] at c1 ⊢
                  have c2' : (gF z 12 v16.toNatClampNeg).toInt ≠ (gI z 2).toInt + v9.toInt := fun q => c2 (toI_inj (by rw [q, hn18]))
                  unfold dN at c1 ⊢
                  by_cases p : gF z 11 v16.toNatClampNeg = 1 ∧ (gF z 12 v16.toNatClampNeg).toInt < (gI z 2).toInt + v9.toInt
                  · rw [if_pos p] at c1; exact absurd c1 (by decide)
                  · rw [if_neg p] at c1
                    rw [if_neg p, if_neg (fun q => p ⟨q.1, by have := q.2; omega⟩)]
                · have c2' : (gF z 12 v16.toNatClampNeg).toInt = (gI z 2).toInt + v9.toInt := by rw [c2, hn18]
                  rw [hcur] at c1
                  unfold dN at c1 ⊢
                  by_cases p : gF z 11 v16.toNatClampNeg = 1 ∧ (gF z 12 v16.toNatClampNeg).toInt < (gI z 2).toInt + v9.toInt
                  · rw [if_pos p] at c1; exact absurd c1 (by decide)
                  · rw [if_neg p] at c1
                    rw [if_pos ⟨c1, by omega⟩]
          exact L17 17 0 z11 t11 s11 (by decide) f12.1 hn11 (fun o ho => absurd ho (by rw [e00]; omega)) (fun o _ ho => hr11 o ho) (by decide)
    refine L10 49 0 z1 t1 s1' (by decide) (by omega) (by rw [y2, e00]; omega) (fun o ho => ?_) (by decide)
    rw [e00, Int.add_zero]
    unfold dN
    rw [if_neg (fun q => by have := pn o ho q.1; have := q.2; omega), e1]
    rfl
  · have := i_nle (q := 167) ia rfl c3
    have := g.2
    omega
def GD9 (n : Int) (b1 b2 : Int32) : Prop := (0 ≤ b1.toInt ∧ b1.toInt < n) ∧ (0 ≤ b2.toInt ∧ b2.toInt ≤ 167)
theorem v_X8_load (b1 b2 : Int32) (z : St) (P : Int32 → Prop) (ht : TX z) (hN : ¬ GD9 (gI z 705).toInt b1 b2 → P (-1)) (hY : GD9 (gI z 705).toInt b1 b2 → P (Fx z b1.toNatClampNeg b2.toNatClampNeg)) : wp_X8_load b1 b2 z P := by
  have f : 0 ≤ (gI z 705).toInt ∧ (gI z 705).toInt ≤ 4 := ht.1 705
  unfold wp_X8_load
  refine s_X0_has _ _ _ ht (fun r2 h2 => ⟨fun c => hN (fun g => ?_), fun c => ?_⟩)
  · have := or0 h2 c
    have := g.1
    omega
  have q2 := or1 h2 c
  refine s_X8_isHour _ _ _ ht (fun r5 h5 => ⟨fun c5 => hN (fun g => ?_), fun c5 => ?_⟩)
  · have := or0 h5 c5
    have := g.2
    omega
  exact v_X0_draws _ _ _ _ (by omega) (or1 h5 c5) (hY ⟨q2, or1 h5 c5⟩)
theorem v_X9_load (b1 b2 : Int32) (z : St) (P : Int32 → St → Prop) (ht : TM z) (hN : ¬ GD9 (gI z 8).toInt b1 b2 → ∀ z2 : St, TM z2 → Same [0, 1] [] z z2 → P (-1) z2) (hY : GD9 (gI z 8).toInt b1 b2 → ∀ z2 : St, TM z2 → Same [0, 1] [] z z2 → P (LD z b1 b2 (-1)) z2) : wp_X9_load b1 b2 z P := by
  have f : 0 ≤ (gI z 8).toInt ∧ (gI z 8).toInt ≤ 4 := ht.1 8
  unfold wp_X9_load
  intro z1 e1
  have t1 : TM z1 := by rw [e1]; exact Ty_wI ht trivial
  have s1 : Same [0, 1] [] z z1 := Same.rf.i (by decide) e1
  have y8 : gI z1 8 = gI z 8 := by rw [e1]; rfl
  refine s_X9_isHome _ _ _ t1 (fun r3 h3 => ?_)
  rw [y8] at h3
  refine ⟨fun c => hN (fun g => ?_) z1 t1 s1, fun c => ?_⟩
  · have := or0 h3 c
    have := g.1
    omega
  have q3 := or1 h3 c
  refine s_X9_isHour _ _ _ t1 (fun r6 h6 => ⟨fun c6 => hN (fun g => ?_) z1 t1 s1, fun c6 => ?_⟩)
  · have := or0 h6 c6
    have := g.2
    omega
  refine v_X9_loadOf _ _ _ _ _ t1 (by omega) (or1 h6 c6) ?_
  have el : LD z1 b1 b2 (-1) = LD z b1 b2 (-1) := by rw [e1]; rfl
  rw [el]
  exact hY ⟨q3, or1 h6 c6⟩ z1 t1 s1
theorem LD_Hs {zm : St} {b1 b2 : Int32} (tm : TM zm) (h1 : 0 ≤ b1.toInt ∧ b1.toInt ≤ 3) (h2 : 0 ≤ b2.toInt ∧ b2.toInt ≤ 167) : LD zm b1 b2 (-1) = Hs zm (gF zm 11) (gF zm 12) b1.toNatClampNeg b2.toNatClampNeg := by
  have f12 : 0 ≤ (gI zm 12).toInt ∧ (gI zm 12).toInt ≤ 16 := tm.1 12
  have c12 := clampN f12.1
  have c1 := clampN h1.1
  have c2 := clampN h2.1
  have em : (-1 : Int32).toInt = -1 := rfl
  have e1 : b1 = nI b1.toNatClampNeg := nI_cl h1.1
  have e2 : b2 = nI b2.toNatClampNeg := nI_cl h2.1
  show ldF (gF zm 5) (gF zm 6) (gF zm 9) (gF zm 10) (gF zm 11) (gF zm 12) b1 b2 (-1) (gI zm 12).toNatClampNeg = _
  rw [ldF_sm (by omega) (fun m hm q => by
    have : (nI m).toInt = (-1 : Int32).toInt := by rw [q]
    rw [nI_toInt (by omega), em] at this
    omega)]
  unfold Hs
  have ix : ((24 : Int32) * b1 + (b2 - b2 / (24 : Int32) * (24 : Int32))).toNatClampNeg = 24 * b1.toNatClampNeg + b2.toNatClampNeg % 24 := by
    have := ix_cl (h := b1) (t := b2.toNatClampNeg) h1 (by omega)
    rw [← e2] at this
    exact this
  rw [ix, ← e1, ← e2]
theorem v_X1_costFrom_6 (b1 b2 : Int32) (z : St) (P : Int64 → Prop) (ht : TX z) (h0 : 0 ≤ b1.toInt ∧ b1.toInt ≤ 15) (h1 : 0 ≤ b2.toInt ∧ b2.toInt ≤ 200) (hk : P (csX (fun k => gF z 18 (4 * b1.toNatClampNeg + k)) (gF z 6) b2.toNatClampNeg (gF z 17 b1.toNatClampNeg).toNatClampNeg)) : wp_X1_costFrom_6 b1 b2 z P := by
  have hv : vp_in b1 16 := vin rfl h0.1 (by omega)
  have c1 := clampN h0.1
  have c2 := clampN h1.1
  have f17 : 0 ≤ (gF z 17 b1.toNatClampNeg).toInt ∧ (gF z 17 b1.toNatClampNeg).toInt ≤ 4 := ht.2 17 _
  have c17 := clampN f17.1
  have m4 : (b1 * (4 : Int32)).toInt = b1.toInt * 4 := a_mul rfl (show (4 : Int32).toInt = 4 from rfl) (by omega) (by omega)
  unfold wp_X1_costFrom_6
  intro K3 hK3
  have LL : ∀ (n : Nat) (v1 : Int64) (v2 : Int32), 0 ≤ v2.toInt → v2.toInt ≤ (gF z 17 b1.toNatClampNeg).toInt → v1 = csX (fun k => gF z 18 (4 * b1.toNatClampNeg + k)) (gF z 6) b2.toNatClampNeg v2.toNatClampNeg → (4 - v2.toInt).toNat < n → K3 v1 v2 := by
    intro n
    induction n with
    | zero => intro v1 v2 _ _ _ q; omega
    | succ n ih =>
      intro v1 v2 g0 g1 hs gm
      have cv := clampN g0
      refine hK3 v1 v2 ⟨hv, fun c => ?_, fun c => ⟨fun c3 => ?_, fun c3 => ?_⟩⟩
      · have c' := i_le rfl rfl c
        rw [hs, show v2.toNatClampNeg = (gF z 17 b1.toNatClampNeg).toNatClampNeg by omega]; exact hk
      · have ia : (b2 + v2).toInt = b2.toInt + v2.toInt := a_add rfl rfl (by omega) (by omega)
        have c3' := i_le (p := 168) rfl ia c3
        rw [hs, ← csX_stop (m := v2.toNatClampNeg) (by omega) ((gF z 17 b1.toNatClampNeg).toNatClampNeg - v2.toNatClampNeg), show v2.toNatClampNeg + ((gF z 17 b1.toNatClampNeg).toNatClampNeg - v2.toNatClampNeg) = (gF z 17 b1.toNatClampNeg).toNatClampNeg by omega]
        exact hk
      · have ia : (b2 + v2).toInt = b2.toInt + v2.toInt := a_add rfl rfl (by omega) (by omega)
        have c3' := i_nle (p := 168) rfl ia c3
        have c' := i_nle rfl rfl c
        have ca := clampN (x := b2 + v2) (by omega)
        have i4 : (b1 * (4 : Int32) + v2).toInt = b1.toInt * 4 + v2.toInt := a_add m4 rfl (by omega) (by omega)
        have c4 := clampN (x := b1 * (4 : Int32) + v2) (by omega)
        refine ⟨vin i4 (by omega) (by omega), vin ia (by omega) (by omega), ?_⟩
        intro x6 e6 x7 e7
        have i7 : x7.toInt = v2.toInt + 1 := by rw [e7]; exact a_add rfl rfl (by omega) (by omega)
        have c7 := clampN (x := x7) (by omega)
        refine ih x6 x7 (by omega) (by omega) ?_ (by omega)
        rw [e6, hs, show x7.toNatClampNeg = v2.toNatClampNeg + 1 by omega, show (b1 * (4 : Int32) + v2).toNatClampNeg = 4 * b1.toNatClampNeg + v2.toNatClampNeg by omega, show (b2 + v2).toNatClampNeg = b2.toNatClampNeg + v2.toNatClampNeg by omega]
        show _ = csX _ _ _ _ + (if b2.toNatClampNeg + v2.toNatClampNeg < 168 then _ else 0)
        rw [if_pos (by omega)]
  exact LL _ 0 0 (by decide) f17.1 rfl (Nat.lt_succ_self _)
theorem csX_co {nd nd' p q : Nat → Int32} {h : Nat} : ∀ n : Nat, (∀ k, k < n → nd k = nd' k) → (∀ t, t < 168 → p t = q t) → csX nd p h n = csX nd' q h n := by
  intro n
  induction n with
  | zero => intro _ _; rfl
  | succ n ih =>
    intro hn hp
    show csX nd p h n + (if h + n < 168 then Int32.toInt64 (nd n * p (h + n)) else 0) = csX nd' q h n + (if h + n < 168 then Int32.toInt64 (nd' n * q (h + n)) else 0)
    rw [ih (fun k hk => hn k (by omega)) hp]
    by_cases c : h + n < 168
    · rw [if_pos c, if_pos c, hn n (by omega), hp (h + n) c]
    · rw [if_neg c, if_neg c]
/-- a job's cost as known in any hour: both sides say the same -/
theorem ck_eq {zx zm : St} {st bg row : Nat → Int32} {j t : Nat} {kn : Int32} (tm : TM zm) (bd : BD zm) (cp : CP zx zm st bg) (hj : (j : Int) < (gI zm 12).toInt) (hr : ∀ t, t < 168 → row t = PR zm (nI t) kn) : csX (fun k => gF zx 18 (4 * j + k)) row t (gF zx 17 j).toNatClampNeg = csM (fun k => gF zm 10 (4 * j + k)) (fun t => PR zm (nI t) kn) t (gF zm 9 j).toNatClampNeg := by
  have f9 : 0 ≤ (gF zm 9 j).toInt ∧ (gF zm 9 j).toInt ≤ 4 := tm.2 9 _
  have c9 := clampN f9.1
  rw [cp.1.2.1.2.2.2.2, cp.1.2.1.2.2.2.1, csX_co (nd' := fun k => gF zm 10 (4 * j + k)) (q := fun t => PR zm (nI t) kn) _ (fun _ _ => rfl) hr]
  exact (cs_eq (nd := fun k => gF zm 10 (4 * j + k)) (p := fun t => PR zm (nI t) kn) (h := t) _ (fun k hk => bd.1 j k hj (by omega)) (fun t _ => prF_bd bd.2.1 bd.2.2 _) (by omega)).1
def GK (n : Int) (st : Nat → Int32) (b1 b2 : Int32) : Prop := (0 ≤ b1.toInt ∧ b1.toInt < n) ∧ ¬ st b1.toNatClampNeg = 0 ∧ (0 ≤ b2.toInt ∧ b2.toInt ≤ 1000)
theorem v_X8_cost (b1 b2 : Int32) (z : St) (P : Int64 → St → Prop) (ht : TX z) (hrx : RX z) (hN : ¬ GK (gI z 1308).toInt (gF z 19) b1 b2 → P 0 z) (hY : GK (gI z 1308).toInt (gF z 19) b1 b2 → ∀ z2 : St, TX z2 → Same [] [6] z z2 → (∀ t : Nat, t < 168 → gF z2 6 t = prF (gF z 2) (gF z 3) (gF z 4) (gI z 106) (nI t) b2 (gI z 105).toNatClampNeg) → P (csX (fun k => gF z 18 (4 * b1.toNatClampNeg + k)) (gF z2 6) (gF z 20 b1.toNatClampNeg).toNatClampNeg (gF z 17 b1.toNatClampNeg).toNatClampNeg) z2) : wp_X8_cost b1 b2 z P := by
  have f : 0 ≤ (gI z 1308).toInt ∧ (gI z 1308).toInt ≤ 16 := ht.1 1308
  have f20 : -1 ≤ (gF z 20 b1.toNatClampNeg).toInt ∧ (gF z 20 b1.toNatClampNeg).toInt ≤ 167 := ht.2 20 _
  unfold wp_X8_cost
  refine s_X1_has _ _ _ ht (fun r2 h2 => ⟨fun c => hN (fun g => ?_), fun c => ?_⟩)
  · have := or0 h2 c
    have := g.1
    omega
  have q2 := or1 h2 c
  have hv : vp_in b1 16 := vin rfl q2.1 (by omega)
  refine ⟨hv, fun c3 => hN (fun g => g.2.1 c3), fun c3 => ?_⟩
  refine s_X8_isKnown _ _ _ ht (fun r6 h6 => ⟨fun c6 => ?_, fun c6 => hN (fun g => ?_)⟩)
  · refine v_X3_lay_6 _ _ _ ht (fun z8 t8 s8 g8 => ⟨hv, ?_⟩)
    have rb : 0 ≤ (gF z 20 b1.toNatClampNeg).toInt := by
      rcases hrx.1 b1.toNatClampNeg with q | q
      · exact absurd (toI_inj q) c3
      · exact q.1
    have q20 : gF z8 20 = gF z 20 := s8.2 20 (by decide)
    have q18 : gF z8 18 = gF z 18 := s8.2 18 (by decide)
    have q17 : gF z8 17 = gF z 17 := s8.2 17 (by decide)
    rw [q20]
    refine v_X1_costFrom_6 _ _ _ _ t8 (by omega) (by omega) ?_
    rw [q18, q17]
    exact hY ⟨q2, c3, or1 h6 c6⟩ z8 t8 s8 g8
  · have := or0 h6 c6
    have := g.2.2
    omega
theorem v_X9_cost (b1 b2 : Int32) (z : St) (P : Int64 → St → Prop) (ht : TM z) (pl : PLB z (gF z 11) (gF z 12)) (hN : ¬ GK (gI z 12).toInt (gF z 11) b1 b2 → ∀ z2 : St, TM z2 → Same [0, 1] [] z z2 → P 0 z2) (hY : GK (gI z 12).toInt (gF z 11) b1 b2 → ∀ z2 : St, TM z2 → Same [0, 1] [] z z2 → P (csM (fun k => gF z 10 (4 * b1.toNatClampNeg + k)) (fun t => PR z (nI t) b2) (gF z 12 b1.toNatClampNeg).toNatClampNeg (gF z 9 b1.toNatClampNeg).toNatClampNeg) z2) : wp_X9_cost b1 b2 z P := by
  have f : 0 ≤ (gI z 12).toInt ∧ (gI z 12).toInt ≤ 16 := ht.1 12
  unfold wp_X9_cost
  intro z1 e1
  have t1 : TM z1 := by rw [e1]; exact Ty_wI ht trivial
  have s1 : Same [0, 1] [] z z1 := Same.rf.i (by decide) e1
  have y12 : gI z1 12 = gI z 12 := by rw [e1]; rfl
  have y11 : gF z1 11 = gF z 11 := by rw [e1]; rfl
  have yb : gF z1 12 = gF z 12 := by rw [e1]; rfl
  refine s_X9_isJob _ _ _ t1 (fun r3 h3 => ?_)
  rw [y12] at h3
  refine ⟨fun c => hN (fun g => ?_) z1 t1 s1, fun c => ?_⟩
  · have := or0 h3 c
    have := g.1
    omega
  have q3 := or1 h3 c
  have c1 := clampN q3.1
  have hv : vp_in b1 16 := vin rfl q3.1 (by omega)
  rw [y11, yb]
  refine ⟨hv, fun c4 => hN (fun g => g.2.1 c4) z1 t1 s1, fun c4 => ?_⟩
  have pb := pl b1.toNatClampNeg (by omega) c4
  refine s_X9_isKnown _ _ _ t1 (fun r7 h7 => ⟨fun c7 => hN (fun g => ?_) z1 t1 s1, fun c7 => ⟨hv, ?_⟩⟩)
  · have := or0 h7 c7
    have := g.2.2
    omega
  refine v_X9_costAt _ _ _ _ _ t1 (by omega) (by omega) ?_
  have e10 : gF z1 10 = gF z 10 := by rw [e1]; rfl
  have e9 : gF z1 9 = gF z 9 := by rw [e1]; rfl
  have ep : (fun t => PR z1 (nI t) b2) = fun t => PR z (nI t) b2 := by funext t; rw [e1]; rfl
  rw [e10, e9, ep]
  exact hY ⟨q3, c4, or1 h7 c7⟩ z1 t1 s1
/-- what the jobs done have saved -/
def svF (st : Nat → Int32) (a b : Nat → Int64) : Nat → Int64
  | 0 => 0
  | m + 1 => svF st a b m + (if st m = 2 then a m - b m else 0)
theorem svF_co {st st' : Nat → Int32} {a b a' b' : Nat → Int64} : ∀ n, (∀ o, o < n → st' o = st o) → (∀ o, o < n → a' o = a o) → (∀ o, o < n → st o = 2 → b' o = b o) → svF st' a' b' n = svF st a b n := by
  intro n
  induction n with
  | zero => intro _ _ _; rfl
  | succ n ih =>
    intro h1 h2 h3
    show svF st' a' b' n + (if st' n = 2 then a' n - b' n else 0) = svF st a b n + (if st n = 2 then a n - b n else 0)
    rw [ih (fun o ho => h1 o (by omega)) (fun o ho => h2 o (by omega)) (fun o ho => h3 o (by omega)), h1 n (by omega)]
    by_cases c : st n = 2
    · rw [if_pos c, if_pos c, h2 n (by omega), h3 n (by omega) c]
    · rw [if_neg c, if_neg c]
abbrev svX (z z2 : St) (n : Nat) : Int64 := svF (gF z 19) (fun j => csX (fun k => gF z 18 (4 * j + k)) (gF z2 6) (gF z 15 j).toNatClampNeg (gF z 17 j).toNatClampNeg) (fun j => csX (fun k => gF z 18 (4 * j + k)) (gF z2 6) (gF z 20 j).toNatClampNeg (gF z 17 j).toNatClampNeg) n
theorem v_X8_saved (b1 : Int32) (z : St) (P : Int64 → St → Prop) (ht : TX z) (hrx : RX z) (hN : ¬ (0 ≤ b1.toInt ∧ b1.toInt ≤ 1000) → P 0 z) (hY : (0 ≤ b1.toInt ∧ b1.toInt ≤ 1000) → ∀ z2 : St, TX z2 → Same [] [6] z z2 → (∀ t : Nat, t < 168 → gF z2 6 t = prF (gF z 2) (gF z 3) (gF z 4) (gI z 106) (nI t) b1 (gI z 105).toNatClampNeg) → P (svX z z2 (gI z 1308).toNatClampNeg) z2) : wp_X8_saved b1 z P := by
  have f : 0 ≤ (gI z 1308).toInt ∧ (gI z 1308).toInt ≤ 16 := ht.1 1308
  have cf := clampN f.1
  have e1 : (1 : Int32).toInt = 1 := rfl
  unfold wp_X8_saved
  refine s_X8_isKnown _ _ _ ht (fun r2 h2 => ⟨fun c => ?_, fun c => hN (fun g => ?_)⟩)
  · refine v_X3_lay_6 _ _ _ ht (fun z4 t4 s4 g4 => ?_)
    have hY := hY (or1 h2 c) z4 t4 s4 g4
    have r1308 : gI z4 1308 = gI z 1308 := s4.1 1308 (by decide)
    have r15 : gF z4 15 = gF z 15 := s4.2 15 (by decide)
    have r17 : gF z4 17 = gF z 17 := s4.2 17 (by decide)
    have r18 : gF z4 18 = gF z 18 := s4.2 18 (by decide)
    have r19 : gF z4 19 = gF z 19 := s4.2 19 (by decide)
    have r20 : gF z4 20 = gF z 20 := s4.2 20 (by decide)
    rw [r1308, r15, r19, r20]
    intro K8 hK8
    have L : ∀ (n : Nat) (v6 : Int64) (v7 : Int32), 0 ≤ v7.toInt → v7.toInt ≤ (gI z 1308).toInt → v6 = svX z z4 v7.toNatClampNeg → (16 - v7.toInt).toNat < n → K8 v6 v7 := by
      intro n
      induction n with
      | zero => intro v6 v7 _ _ _ q; omega
      | succ n ih =>
        intro v6 v7 g0 g1 hs gm
        have cv := clampN g0
        refine hK8 v6 v7 ⟨fun cc => ?_, fun cc => ?_⟩
        · have cc' := i_le rfl rfl cc
          rw [hs, show v7.toNatClampNeg = (gI z 1308).toNatClampNeg by omega]
          exact hY
        · have cc' := i_nle rfl rfl cc
          have hv : vp_in v7 16 := vin rfl g0 (by omega)
          refine ⟨hv, ?_⟩
          intro K11 hK11
          have next : ∀ v10 : Int64, v10 = svX z z4 (v7.toNatClampNeg + 1) → K11 v10 := by
            intro v10 h10
            refine hK11 v10 (fun x12 e12 => ?_)
            have i12 : x12.toInt = v7.toInt + 1 := by rw [e12]; exact a_add rfl e1 (by omega) (by omega)
            have c12 := clampN (x := x12) (by omega)
            exact ih v10 x12 (by omega) (by omega) (by rw [show x12.toNatClampNeg = v7.toNatClampNeg + 1 by omega]; exact h10) (by omega)
          have f15 : 0 ≤ (gF z 15 v7.toNatClampNeg).toInt ∧ (gF z 15 v7.toNatClampNeg).toInt ≤ 167 := ht.2 15 _
          have f20 : -1 ≤ (gF z 20 v7.toNatClampNeg).toInt ∧ (gF z 20 v7.toNatClampNeg).toInt ≤ 167 := ht.2 20 _
          refine ⟨fun c2 => next v6 ?_, fun c2 => ⟨hv, ?_⟩⟩
          · show _ = svX z z4 v7.toNatClampNeg + (if gF z 19 v7.toNatClampNeg = 2 then _ else 0)
            rw [if_neg c2, Int64.add_zero]; exact hs
          · have rb : 0 ≤ (gF z 20 v7.toNatClampNeg).toInt := by
              rcases hrx.1 v7.toNatClampNeg with q | q
              · rw [c2] at q; exact absurd q (by decide)
              · exact q.1
            refine v_X1_costFrom_6 _ _ _ _ t4 (by omega) (by omega) ?_
            rw [r17, r18]
            intro x16 e16
            refine ⟨hv, v_X1_costFrom_6 _ _ _ _ t4 (by omega) (by omega) ?_⟩
            rw [r17, r18]
            intro x19 e19
            refine next x19 ?_
            show _ = svX z z4 v7.toNatClampNeg + (if gF z 19 v7.toNatClampNeg = 2 then _ else 0)
            rw [if_pos c2, e19, e16, hs, Int64.sub_eq_add_neg, Int64.add_assoc, ← Int64.sub_eq_add_neg]
    exact L 17 0 0 (by decide) f.1 rfl (by decide)
  · have := or0 h2 c
    omega
abbrev svM (z : St) (kn : Int32) (n : Nat) : Int64 := svF (gF z 11) (fun j => csM (fun k => gF z 10 (4 * j + k)) (fun t => PR z (nI t) kn) (gF z 7 j).toNatClampNeg (gF z 9 j).toNatClampNeg) (fun j => csM (fun k => gF z 10 (4 * j + k)) (fun t => PR z (nI t) kn) (gF z 12 j).toNatClampNeg (gF z 9 j).toNatClampNeg) n
theorem v_X9_saved (b1 : Int32) (z : St) (P : Int64 → St → Prop) (ht : TM z) (pl : PLB z (gF z 11) (gF z 12)) (hN : ¬ (0 ≤ b1.toInt ∧ b1.toInt ≤ 1000) → ∀ z2 : St, TM z2 → Same [0, 1] [] z z2 → P 0 z2) (hY : (0 ≤ b1.toInt ∧ b1.toInt ≤ 1000) → ∀ z2 : St, TM z2 → Same [0, 1] [] z z2 → P (svM z b1 (gI z 12).toNatClampNeg) z2) : wp_X9_saved b1 z P := by
  have f : 0 ≤ (gI z 12).toInt ∧ (gI z 12).toInt ≤ 16 := ht.1 12
  have cf := clampN f.1
  have e01 : (1 : Int32).toInt = 1 := rfl
  unfold wp_X9_saved
  intro z1 e1
  have t1 : TM z1 := by rw [e1]; exact Ty_wI ht trivial
  have s1 : Same [0, 1] [] z z1 := Same.rf.i (by decide) e1
  have y12 : gI z1 12 = gI z 12 := by rw [e1]; rfl
  have y7 : gF z1 7 = gF z 7 := by rw [e1]; rfl
  have y11 : gF z1 11 = gF z 11 := by rw [e1]; rfl
  have yb : gF z1 12 = gF z 12 := by rw [e1]; rfl
  have e10 : gF z1 10 = gF z 10 := by rw [e1]; rfl
  have e9 : gF z1 9 = gF z 9 := by rw [e1]; rfl
  have ep : (fun t => PR z1 (nI t) b1) = fun t => PR z (nI t) b1 := by funext t; rw [e1]; rfl
  rw [y12, y7, y11, yb]
  intro K4 hK4
  have L : ∀ (n : Nat) (v2 : Int64) (v3 : Int32), 0 ≤ v3.toInt → v3.toInt ≤ (gI z 12).toInt → v2 = svM z b1 v3.toNatClampNeg → ((0 ≤ b1.toInt ∧ b1.toInt ≤ 1000) ∨ v2 = 0) → (16 - v3.toInt).toNat < n → K4 v2 v3 := by
    intro n
    induction n with
    | zero => intro v2 v3 _ _ _ _ q; omega
    | succ n ih =>
      intro v2 v3 g0 g1 hs hz gm
      have cv := clampN g0
      refine hK4 v2 v3 ⟨fun cc => ?_, fun cc => ?_⟩
      · have cc' := i_le rfl rfl cc
        by_cases g : 0 ≤ b1.toInt ∧ b1.toInt ≤ 1000
        · rw [hs, show v3.toNatClampNeg = (gI z 12).toNatClampNeg by omega]
          exact hY g z1 t1 s1
        · rcases hz with q | q
          · exact absurd q g
          · rw [q]; exact hN g z1 t1 s1
      · have cc' := i_nle rfl rfl cc
        refine s_X9_isKnown _ _ _ t1 (fun r7 h7 => ⟨fun c7 => ?_, fun c7 => ?_⟩)
        · have g := or0 h7 c7
          have ng : ¬ (0 ≤ b1.toInt ∧ b1.toInt ≤ 1000) := by omega
          rcases hz with q | q
          · exact absurd q ng
          · rw [q]; exact hN ng z1 t1 s1
        · have g := or1 h7 c7
          have hv : vp_in v3 16 := vin rfl g0 (by omega)
          refine ⟨hv, ?_⟩
          intro K11 hK11
          have next : ∀ s9 : Int64, v2 + s9 = svM z b1 (v3.toNatClampNeg + 1) → K11 s9 v2 := by
            intro s9 h9
            refine hK11 s9 v2 (fun x12 e12 x13 e13 => ?_)
            have i13 : x13.toInt = v3.toInt + 1 := by rw [e13]; exact a_add rfl e01 (by omega) (by omega)
            have c13 := clampN (x := x13) (by omega)
            exact ih x12 x13 (by omega) (by omega) (by rw [show x13.toNatClampNeg = v3.toNatClampNeg + 1 by omega, e12]; exact h9) (Or.inl g) (by omega)
          have f7 : 0 ≤ (gF z 7 v3.toNatClampNeg).toInt ∧ (gF z 7 v3.toNatClampNeg).toInt ≤ 167 := ht.2 7 _
          refine ⟨fun c2 => next 0 ?_, fun c2 => ⟨hv, ?_⟩⟩
          · show _ = svM z b1 v3.toNatClampNeg + (if gF z 11 v3.toNatClampNeg = 2 then _ else 0)
            rw [if_neg c2, hs]
          · have pb := pl v3.toNatClampNeg (by omega) (by rw [c2]; decide)
            refine v_X9_costAt _ _ _ _ _ t1 (by omega) (by omega) ⟨hv, v_X9_costAt _ _ _ _ _ t1 (by omega) (by omega) ?_⟩
            rw [e10, e9, ep]
            refine next _ ?_
            show _ = svM z b1 v3.toNatClampNeg + (if gF z 11 v3.toNatClampNeg = 2 then _ else 0)
            rw [if_pos c2, hs]
  exact L 17 0 0 (by decide) f.1 rfl (Or.inr rfl) (by decide)
theorem v_X9_jobsThat (b1 : Int32) (z : St) (P : Int32 → Prop) (ht : TM z) (hk : ∀ r : Int32, r.toInt = (cnt (gF z 11) b1 (gI z 12).toNatClampNeg : Int) → P r) : wp_X9_jobsThat b1 z P := by
  have f : 0 ≤ (gI z 12).toInt ∧ (gI z 12).toInt ≤ 16 := ht.1 12
  have cn := clampN f.1
  have e0 : (0 : Int32).toInt = 0 := rfl
  have e1 : (1 : Int32).toInt = 1 := rfl
  unfold wp_X9_jobsThat
  intro K3 hK3
  have LL : ∀ (n : Nat) (v1 v2 : Int32), 0 ≤ v2.toInt → v2.toInt ≤ (gI z 12).toInt → v1.toInt = (cnt (gF z 11) b1 v2.toNatClampNeg : Int) → (16 - v2.toInt).toNat < n → K3 v1 v2 := by
    intro n
    induction n with
    | zero => intro v1 v2 _ _ _ q; omega
    | succ n ih =>
      intro v1 v2 g0 g1 hs gm
      have cv := clampN g0
      have hc := cnt_le (gF z 11) b1 v2.toNatClampNeg
      refine hK3 v1 v2 ⟨fun c => hk v1 ?_, fun c => ⟨vin rfl g0 (by have := i_nle rfl rfl c; omega), ?_⟩⟩
      · have c' := i_le rfl rfl c
        rw [hs, show v2.toNatClampNeg = (gI z 12).toNatClampNeg by omega]
      · have c' := i_nle rfl rfl c
        intro K7 hK7
        have go : ∀ s5 : Int32, (v1 + s5).toInt = (cnt (gF z 11) b1 (v2.toNatClampNeg + 1) : Int) → K7 s5 v1 := by
          intro s5 h5
          refine hK7 s5 v1 (fun x8 e8 x9 e9 => ?_)
          have i9 : x9.toInt = v2.toInt + 1 := by rw [e9]; exact a_add rfl e1 (by omega) (by omega)
          have c9 := clampN (x := x9) (by omega)
          exact ih x8 x9 (by omega) (by omega) (by rw [show x9.toNatClampNeg = v2.toNatClampNeg + 1 by omega, e8]; exact h5) (by omega)
        refine ⟨fun c1 => go 0 ?_, fun c1 => go 1 ?_⟩
        · show _ = ((cnt (gF z 11) b1 v2.toNatClampNeg + (if gF z 11 v2.toNatClampNeg = b1 then 1 else 0) : Nat) : Int)
          rw [if_neg c1, Int32.add_zero]; exact hs
        · show _ = ((cnt (gF z 11) b1 v2.toNatClampNeg + (if gF z 11 v2.toNatClampNeg = b1 then 1 else 0) : Nat) : Int)
          rw [if_pos c1, a_add hs e1 (by omega) (by omega)]
          rfl
  exact LL _ 0 0 (by decide) f.1 rfl (Nat.lt_succ_self _)
/-- the answers of count -/
def CTv (a0 a1 a2 a3 a4 a5 a6 : Int32) (st : Nat → Int32) (n : Nat) (b1 r : Int32) : Prop := (b1 = 0 → r = a0) ∧ (b1 = 1 → r = a1) ∧ (b1 = 2 → r = a2) ∧ (b1 = 3 → r = a3) ∧ (b1 = 4 → r = a4) ∧ (b1 = 5 → r = a5) ∧ (b1 = 6 → r = a6) ∧ (b1 = 7 → r.toInt = (cnt st 0 n : Int)) ∧ (b1 = 8 → r.toInt = (cnt st 1 n : Int)) ∧ (b1 = 9 → r.toInt = (cnt st 2 n : Int)) ∧ ((b1.toInt < 0 ∨ 9 < b1.toInt) → r = -1)
theorem n09 (b1 : Int32) : b1 = 0 ∨ b1 = 1 ∨ b1 = 2 ∨ b1 = 3 ∨ b1 = 4 ∨ b1 = 5 ∨ b1 = 6 ∨ b1 = 7 ∨ b1 = 8 ∨ b1 = 9 ∨ (b1.toInt < 0 ∨ 9 < b1.toInt) := by
  by_cases h : b1.toInt < 0 ∨ 9 < b1.toInt
  · exact Or.inr (Or.inr (Or.inr (Or.inr (Or.inr (Or.inr (Or.inr (Or.inr (Or.inr (Or.inr h)))))))))
  · have k : b1.toInt = 0 ∨ b1.toInt = 1 ∨ b1.toInt = 2 ∨ b1.toInt = 3 ∨ b1.toInt = 4 ∨ b1.toInt = 5 ∨ b1.toInt = 6 ∨ b1.toInt = 7 ∨ b1.toInt = 8 ∨ b1.toInt = 9 := by omega
    rcases k with k | k | k | k | k | k | k | k | k | k
    · exact Or.inl (toI_inj k)
    · exact Or.inr (Or.inl (toI_inj k))
    · exact Or.inr (Or.inr (Or.inl (toI_inj k)))
    · exact Or.inr (Or.inr (Or.inr (Or.inl (toI_inj k))))
    · exact Or.inr (Or.inr (Or.inr (Or.inr (Or.inl (toI_inj k)))))
    · exact Or.inr (Or.inr (Or.inr (Or.inr (Or.inr (Or.inl (toI_inj k))))))
    · exact Or.inr (Or.inr (Or.inr (Or.inr (Or.inr (Or.inr (Or.inl (toI_inj k)))))))
    · exact Or.inr (Or.inr (Or.inr (Or.inr (Or.inr (Or.inr (Or.inr (Or.inl (toI_inj k))))))))
    · exact Or.inr (Or.inr (Or.inr (Or.inr (Or.inr (Or.inr (Or.inr (Or.inr (Or.inl (toI_inj k)))))))))
    · exact Or.inr (Or.inr (Or.inr (Or.inr (Or.inr (Or.inr (Or.inr (Or.inr (Or.inr (Or.inl (toI_inj k))))))))))
theorem CTv_eq {a0 a1 a2 a3 a4 a5 a6 : Int32} {st : Nat → Int32} {n : Nat} {b1 r r' : Int32} (h : CTv a0 a1 a2 a3 a4 a5 a6 st n b1 r) (h' : CTv a0 a1 a2 a3 a4 a5 a6 st n b1 r') : r = r' := by
  obtain ⟨p0, p1, p2, p3, p4, p5, p6, p7, p8, p9, pa⟩ := h
  obtain ⟨q0, q1, q2, q3, q4, q5, q6, q7, q8, q9, qa⟩ := h'
  rcases n09 b1 with k | k | k | k | k | k | k | k | k | k | k
  · exact (p0 k).trans (q0 k).symm
  · exact (p1 k).trans (q1 k).symm
  · exact (p2 k).trans (q2 k).symm
  · exact (p3 k).trans (q3 k).symm
  · exact (p4 k).trans (q4 k).symm
  · exact (p5 k).trans (q5 k).symm
  · exact (p6 k).trans (q6 k).symm
  · exact toI_inj ((p7 k).trans (q7 k).symm)
  · exact toI_inj ((p8 k).trans (q8 k).symm)
  · exact toI_inj ((p9 k).trans (q9 k).symm)
  · exact (pa k).trans (qa k).symm
theorem v_X8_count (b1 : Int32) (z : St) (P : Int32 → Prop) (ht : TX z) (hk : ∀ r : Int32, CTv (gI z 2104) (gI z 705) (gI z 1308) (gI z 105) (gI z 3403) (gI z 3909) (gI z 3701) (gF z 19) (gI z 1308).toNatClampNeg b1 r → P r) : wp_X8_count b1 z P := by
  unfold wp_X8_count
  refine ⟨fun c => ?_, fun c => ?_, fun c => ?_, fun c => ?_, fun c => ?_, fun c => ?_, fun c => ?_, fun c => ?_, fun c => ?_, fun c => ?_, fun c => ?_⟩
  · exact hk _ ⟨fun _ => rfl, fun q => absurd (c.symm.trans q) (by decide), fun q => absurd (c.symm.trans q) (by decide), fun q => absurd (c.symm.trans q) (by decide), fun q => absurd (c.symm.trans q) (by decide), fun q => absurd (c.symm.trans q) (by decide), fun q => absurd (c.symm.trans q) (by decide), fun q => absurd (c.symm.trans q) (by decide), fun q => absurd (c.symm.trans q) (by decide), fun q => absurd (c.symm.trans q) (by decide), fun q => absurd q (by rw [c]; decide)⟩
  · exact hk _ ⟨fun q => absurd (c.symm.trans q) (by decide), fun _ => rfl, fun q => absurd (c.symm.trans q) (by decide), fun q => absurd (c.symm.trans q) (by decide), fun q => absurd (c.symm.trans q) (by decide), fun q => absurd (c.symm.trans q) (by decide), fun q => absurd (c.symm.trans q) (by decide), fun q => absurd (c.symm.trans q) (by decide), fun q => absurd (c.symm.trans q) (by decide), fun q => absurd (c.symm.trans q) (by decide), fun q => absurd q (by rw [c]; decide)⟩
  · exact hk _ ⟨fun q => absurd (c.symm.trans q) (by decide), fun q => absurd (c.symm.trans q) (by decide), fun _ => rfl, fun q => absurd (c.symm.trans q) (by decide), fun q => absurd (c.symm.trans q) (by decide), fun q => absurd (c.symm.trans q) (by decide), fun q => absurd (c.symm.trans q) (by decide), fun q => absurd (c.symm.trans q) (by decide), fun q => absurd (c.symm.trans q) (by decide), fun q => absurd (c.symm.trans q) (by decide), fun q => absurd q (by rw [c]; decide)⟩
  · exact hk _ ⟨fun q => absurd (c.symm.trans q) (by decide), fun q => absurd (c.symm.trans q) (by decide), fun q => absurd (c.symm.trans q) (by decide), fun _ => rfl, fun q => absurd (c.symm.trans q) (by decide), fun q => absurd (c.symm.trans q) (by decide), fun q => absurd (c.symm.trans q) (by decide), fun q => absurd (c.symm.trans q) (by decide), fun q => absurd (c.symm.trans q) (by decide), fun q => absurd (c.symm.trans q) (by decide), fun q => absurd q (by rw [c]; decide)⟩
  · exact hk _ ⟨fun q => absurd (c.symm.trans q) (by decide), fun q => absurd (c.symm.trans q) (by decide), fun q => absurd (c.symm.trans q) (by decide), fun q => absurd (c.symm.trans q) (by decide), fun _ => rfl, fun q => absurd (c.symm.trans q) (by decide), fun q => absurd (c.symm.trans q) (by decide), fun q => absurd (c.symm.trans q) (by decide), fun q => absurd (c.symm.trans q) (by decide), fun q => absurd (c.symm.trans q) (by decide), fun q => absurd q (by rw [c]; decide)⟩
  · exact hk _ ⟨fun q => absurd (c.symm.trans q) (by decide), fun q => absurd (c.symm.trans q) (by decide), fun q => absurd (c.symm.trans q) (by decide), fun q => absurd (c.symm.trans q) (by decide), fun q => absurd (c.symm.trans q) (by decide), fun _ => rfl, fun q => absurd (c.symm.trans q) (by decide), fun q => absurd (c.symm.trans q) (by decide), fun q => absurd (c.symm.trans q) (by decide), fun q => absurd (c.symm.trans q) (by decide), fun q => absurd q (by rw [c]; decide)⟩
  · exact hk _ ⟨fun q => absurd (c.symm.trans q) (by decide), fun q => absurd (c.symm.trans q) (by decide), fun q => absurd (c.symm.trans q) (by decide), fun q => absurd (c.symm.trans q) (by decide), fun q => absurd (c.symm.trans q) (by decide), fun q => absurd (c.symm.trans q) (by decide), fun _ => rfl, fun q => absurd (c.symm.trans q) (by decide), fun q => absurd (c.symm.trans q) (by decide), fun q => absurd (c.symm.trans q) (by decide), fun q => absurd q (by rw [c]; decide)⟩
  · exact v_X1_inState _ _ _ ht (fun r hr => hk r ⟨fun q => absurd (c.symm.trans q) (by decide), fun q => absurd (c.symm.trans q) (by decide), fun q => absurd (c.symm.trans q) (by decide), fun q => absurd (c.symm.trans q) (by decide), fun q => absurd (c.symm.trans q) (by decide), fun q => absurd (c.symm.trans q) (by decide), fun q => absurd (c.symm.trans q) (by decide), fun _ => hr, fun q => absurd (c.symm.trans q) (by decide), fun q => absurd (c.symm.trans q) (by decide), fun q => absurd q (by rw [c]; decide)⟩)
  · exact v_X1_inState _ _ _ ht (fun r hr => hk r ⟨fun q => absurd (c.symm.trans q) (by decide), fun q => absurd (c.symm.trans q) (by decide), fun q => absurd (c.symm.trans q) (by decide), fun q => absurd (c.symm.trans q) (by decide), fun q => absurd (c.symm.trans q) (by decide), fun q => absurd (c.symm.trans q) (by decide), fun q => absurd (c.symm.trans q) (by decide), fun q => absurd (c.symm.trans q) (by decide), fun _ => hr, fun q => absurd (c.symm.trans q) (by decide), fun q => absurd q (by rw [c]; decide)⟩)
  · exact v_X1_inState _ _ _ ht (fun r hr => hk r ⟨fun q => absurd (c.symm.trans q) (by decide), fun q => absurd (c.symm.trans q) (by decide), fun q => absurd (c.symm.trans q) (by decide), fun q => absurd (c.symm.trans q) (by decide), fun q => absurd (c.symm.trans q) (by decide), fun q => absurd (c.symm.trans q) (by decide), fun q => absurd (c.symm.trans q) (by decide), fun q => absurd (c.symm.trans q) (by decide), fun q => absurd (c.symm.trans q) (by decide), fun _ => hr, fun q => absurd q (by rw [c]; decide)⟩)
  · exact hk _ ⟨fun q => absurd c (by rw [q]; decide), fun q => absurd c (by rw [q]; decide), fun q => absurd c (by rw [q]; decide), fun q => absurd c (by rw [q]; decide), fun q => absurd c (by rw [q]; decide), fun q => absurd c (by rw [q]; decide), fun q => absurd c (by rw [q]; decide), fun q => absurd c (by rw [q]; decide), fun q => absurd c (by rw [q]; decide), fun q => absurd c (by rw [q]; decide), fun _ => rfl⟩
theorem v_X9_count (b1 : Int32) (z : St) (P : Int32 → St → Prop) (ht : TM z) (hk : ∀ (r : Int32) (z2 : St), TM z2 → Same [0, 1] [] z z2 → CTv (gI z 2) (gI z 8) (gI z 12) (gI z 3) (gI z 22) (gI z 43) (gI z 36) (gF z 11) (gI z 12).toNatClampNeg b1 r → P r z2) : wp_X9_count b1 z P := by
  unfold wp_X9_count
  intro z1 e1
  have t1 : TM z1 := by rw [e1]; exact Ty_wI ht trivial
  have s1 : Same [0, 1] [] z z1 := Same.rf.i (by decide) e1
  have hk : ∀ r : Int32, CTv (gI z1 2) (gI z1 8) (gI z1 12) (gI z1 3) (gI z1 22) (gI z1 43) (gI z1 36) (gF z1 11) (gI z1 12).toNatClampNeg b1 r → P r z1 := by
    intro r h
    refine hk r z1 t1 s1 ?_
    rw [e1] at h
    exact h
  refine ⟨fun c => ?_, fun c => ?_, fun c => ?_, fun c => ?_, fun c => ?_, fun c => ?_, fun c => ?_, fun c => ?_, fun c => ?_, fun c => ?_, fun c => ?_⟩
  · exact hk _ ⟨fun _ => rfl, fun q => absurd (c.symm.trans q) (by decide), fun q => absurd (c.symm.trans q) (by decide), fun q => absurd (c.symm.trans q) (by decide), fun q => absurd (c.symm.trans q) (by decide), fun q => absurd (c.symm.trans q) (by decide), fun q => absurd (c.symm.trans q) (by decide), fun q => absurd (c.symm.trans q) (by decide), fun q => absurd (c.symm.trans q) (by decide), fun q => absurd (c.symm.trans q) (by decide), fun q => absurd q (by rw [c]; decide)⟩
  · exact hk _ ⟨fun q => absurd (c.symm.trans q) (by decide), fun _ => rfl, fun q => absurd (c.symm.trans q) (by decide), fun q => absurd (c.symm.trans q) (by decide), fun q => absurd (c.symm.trans q) (by decide), fun q => absurd (c.symm.trans q) (by decide), fun q => absurd (c.symm.trans q) (by decide), fun q => absurd (c.symm.trans q) (by decide), fun q => absurd (c.symm.trans q) (by decide), fun q => absurd (c.symm.trans q) (by decide), fun q => absurd q (by rw [c]; decide)⟩
  · exact hk _ ⟨fun q => absurd (c.symm.trans q) (by decide), fun q => absurd (c.symm.trans q) (by decide), fun _ => rfl, fun q => absurd (c.symm.trans q) (by decide), fun q => absurd (c.symm.trans q) (by decide), fun q => absurd (c.symm.trans q) (by decide), fun q => absurd (c.symm.trans q) (by decide), fun q => absurd (c.symm.trans q) (by decide), fun q => absurd (c.symm.trans q) (by decide), fun q => absurd (c.symm.trans q) (by decide), fun q => absurd q (by rw [c]; decide)⟩
  · exact hk _ ⟨fun q => absurd (c.symm.trans q) (by decide), fun q => absurd (c.symm.trans q) (by decide), fun q => absurd (c.symm.trans q) (by decide), fun _ => rfl, fun q => absurd (c.symm.trans q) (by decide), fun q => absurd (c.symm.trans q) (by decide), fun q => absurd (c.symm.trans q) (by decide), fun q => absurd (c.symm.trans q) (by decide), fun q => absurd (c.symm.trans q) (by decide), fun q => absurd (c.symm.trans q) (by decide), fun q => absurd q (by rw [c]; decide)⟩
  · exact hk _ ⟨fun q => absurd (c.symm.trans q) (by decide), fun q => absurd (c.symm.trans q) (by decide), fun q => absurd (c.symm.trans q) (by decide), fun q => absurd (c.symm.trans q) (by decide), fun _ => rfl, fun q => absurd (c.symm.trans q) (by decide), fun q => absurd (c.symm.trans q) (by decide), fun q => absurd (c.symm.trans q) (by decide), fun q => absurd (c.symm.trans q) (by decide), fun q => absurd (c.symm.trans q) (by decide), fun q => absurd q (by rw [c]; decide)⟩
  · exact hk _ ⟨fun q => absurd (c.symm.trans q) (by decide), fun q => absurd (c.symm.trans q) (by decide), fun q => absurd (c.symm.trans q) (by decide), fun q => absurd (c.symm.trans q) (by decide), fun q => absurd (c.symm.trans q) (by decide), fun _ => rfl, fun q => absurd (c.symm.trans q) (by decide), fun q => absurd (c.symm.trans q) (by decide), fun q => absurd (c.symm.trans q) (by decide), fun q => absurd (c.symm.trans q) (by decide), fun q => absurd q (by rw [c]; decide)⟩
  · exact hk _ ⟨fun q => absurd (c.symm.trans q) (by decide), fun q => absurd (c.symm.trans q) (by decide), fun q => absurd (c.symm.trans q) (by decide), fun q => absurd (c.symm.trans q) (by decide), fun q => absurd (c.symm.trans q) (by decide), fun q => absurd (c.symm.trans q) (by decide), fun _ => rfl, fun q => absurd (c.symm.trans q) (by decide), fun q => absurd (c.symm.trans q) (by decide), fun q => absurd (c.symm.trans q) (by decide), fun q => absurd q (by rw [c]; decide)⟩
  · exact v_X9_jobsThat _ _ _ t1 (fun r hr => hk r ⟨fun q => absurd (c.symm.trans q) (by decide), fun q => absurd (c.symm.trans q) (by decide), fun q => absurd (c.symm.trans q) (by decide), fun q => absurd (c.symm.trans q) (by decide), fun q => absurd (c.symm.trans q) (by decide), fun q => absurd (c.symm.trans q) (by decide), fun q => absurd (c.symm.trans q) (by decide), fun _ => hr, fun q => absurd (c.symm.trans q) (by decide), fun q => absurd (c.symm.trans q) (by decide), fun q => absurd q (by rw [c]; decide)⟩)
  · exact v_X9_jobsThat _ _ _ t1 (fun r hr => hk r ⟨fun q => absurd (c.symm.trans q) (by decide), fun q => absurd (c.symm.trans q) (by decide), fun q => absurd (c.symm.trans q) (by decide), fun q => absurd (c.symm.trans q) (by decide), fun q => absurd (c.symm.trans q) (by decide), fun q => absurd (c.symm.trans q) (by decide), fun q => absurd (c.symm.trans q) (by decide), fun q => absurd (c.symm.trans q) (by decide), fun _ => hr, fun q => absurd (c.symm.trans q) (by decide), fun q => absurd q (by rw [c]; decide)⟩)
  · exact v_X9_jobsThat _ _ _ t1 (fun r hr => hk r ⟨fun q => absurd (c.symm.trans q) (by decide), fun q => absurd (c.symm.trans q) (by decide), fun q => absurd (c.symm.trans q) (by decide), fun q => absurd (c.symm.trans q) (by decide), fun q => absurd (c.symm.trans q) (by decide), fun q => absurd (c.symm.trans q) (by decide), fun q => absurd (c.symm.trans q) (by decide), fun q => absurd (c.symm.trans q) (by decide), fun q => absurd (c.symm.trans q) (by decide), fun _ => hr, fun q => absurd q (by rw [c]; decide)⟩)
  · exact hk _ ⟨fun q => absurd c (by rw [q]; decide), fun q => absurd c (by rw [q]; decide), fun q => absurd c (by rw [q]; decide), fun q => absurd c (by rw [q]; decide), fun q => absurd c (by rw [q]; decide), fun q => absurd c (by rw [q]; decide), fun q => absurd c (by rw [q]; decide), fun q => absurd c (by rw [q]; decide), fun q => absurd c (by rw [q]; decide), fun q => absurd c (by rw [q]; decide), fun _ => rfl⟩
