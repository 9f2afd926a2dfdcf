-- THE REFERENCE'S whole(): what it makes of the plan
/-- the jobs that are not done, in their order -/
def ojC (st : Nat → Int32) : Nat → Nat × (Nat → Nat)
  | 0 => (0, fun _ => 0)
  | m + 1 => if st m = 2 then ojC st m else ((ojC st m).1 + 1, fun i => if i = (ojC st m).1 then m else (ojC st m).2 i)
theorem ojC_y {st : Nat → Int32} {m : Nat} (h : st m = 2) : ojC st (m + 1) = ojC st m := if_pos h
theorem ojC_n {st : Nat → Int32} {m : Nat} (h : ¬ st m = 2) : ojC st (m + 1) = ((ojC st m).1 + 1, fun i => if i = (ojC st m).1 then m else (ojC st m).2 i) := if_neg h
theorem ojC_ok (st : Nat → Int32) : ∀ m, (ojC st m).1 ≤ m ∧ Rise (ojC st m).2 (ojC st m).1 ∧ ∀ i, i < (ojC st m).1 → (ojC st m).2 i < m ∧ ¬ st ((ojC st m).2 i) = 2 := by
  intro m
  induction m with
  | zero => exact ⟨Nat.le_refl _, fun k k' _ h => absurd h (Nat.not_lt_zero _), fun i h => absurd h (Nat.not_lt_zero _)⟩
  | succ m ih =>
    by_cases c : st m = 2
    · rw [ojC_y c]
      exact ⟨by omega, ih.2.1, fun i hi => ⟨by have := (ih.2.2 i hi).1; omega, (ih.2.2 i hi).2⟩⟩
    · rw [ojC_n c]
      refine ⟨by show (ojC st m).1 + 1 ≤ m + 1; omega, fun k k' h1 h2 => ?_, fun i hi => ?_⟩
      · have h2' : k' < (ojC st m).1 + 1 := h2
        show (if k = (ojC st m).1 then m else (ojC st m).2 k) < (if k' = (ojC st m).1 then m else (ojC st m).2 k')
        rw [if_neg (by omega)]
        by_cases e : k' = (ojC st m).1
        · rw [if_pos e]; exact (ih.2.2 k (by omega)).1
        · rw [if_neg e]; exact ih.2.1 k k' h1 (by omega)
      · have hi' : i < (ojC st m).1 + 1 := hi
        show (if i = (ojC st m).1 then m else (ojC st m).2 i) < m + 1 ∧ ¬ st (if i = (ojC st m).1 then m else (ojC st m).2 i) = 2
        by_cases e : i = (ojC st m).1
        · rw [if_pos e]; exact ⟨by omega, c⟩
        · rw [if_neg e]; have := ih.2.2 i (by omega); exact ⟨by omega, this.2⟩
theorem ojC_mono (st : Nat → Int32) : ∀ m d, (ojC st m).1 ≤ (ojC st (m + d)).1 := by
  intro m d
  induction d with
  | zero => exact Nat.le_refl _
  | succ d ih =>
    by_cases c : st (m + d) = 2
    · rw [show m + (d + 1) = (m + d) + 1 by omega, ojC_y c]; exact ih
    · rw [show m + (d + 1) = (m + d) + 1 by omega, ojC_n c]
      show (ojC st m).1 ≤ (ojC st (m + d)).1 + 1
      omega
/-- what whole() comes to: its answer, and the plan afterwards -/
def WO9 (zm : St) (st bg : Nat → Int32) (nj : Nat) (r : Int64) (st' bg' : Nat → Int32) : Prop := (5 < (ojC st nj).1 ∧ r = -4000000000000000005 ∧ st' = st ∧ bg' = bg) ∨ ((ojC st nj).1 ≤ 5 ∧ (∀ c, ¬ FeP zm (op0 st) bg (ojC st nj).2 (ojC st nj).1 c) ∧ r = -4000000000000000006 ∧ st' = st ∧ bg' = bg) ∨ ((ojC st nj).1 ≤ 5 ∧ ∃ b, Best zm (op0 st) bg (ojC st nj).2 (ojC st nj).1 b ∧ r.toInt = coF zm (ojC st nj).2 b (ojC st nj).1 ∧ st' = pS (op0 st) (ojC st nj).2 (ojC st nj).1 ∧ bg' = pG bg (ojC st nj).2 b (ojC st nj).1)
theorem FR_m {zm z2 : St} {I F : List Nat} (h : FR zm) (s : Same I F zm z2) (hI : ∀ x ∈ [2, 3, 7, 21], x ∉ I) (hF : ∀ x ∈ [1, 2, 3, 13], x ∉ F) : FR z2 := by
  intro c t ht
  rw [s.1 21 (hI _ (by decide))] at c
  rw [PR_same s (hI _ (by decide)) (hI _ (by decide)) (hF _ (by decide)) (hF _ (by decide)) (hF _ (by decide)), s.1 2 (hI _ (by decide)), s.2 13 (hF _ (by decide))]
  exact h c t ht
/-- the plan that was found is written -/
theorem wh_found (zm z11 : St) (P : St → Prop) (st bg : Nat → Int32) (oj : Nat → Nat) (n : Nat) (b : Nat → Int32) (v2 : Int32) (tm : TM zm) (cm11 : CM z11 zm (op0 st) bg) (h2 : v2.toInt = (n : Int)) (h5 : n ≤ 5) (hoj : ∀ i, i < n → oj i < (gI zm 12).toNatClampNeg) (r18 : ∀ i, i < n → gF z11 18 i = nI (oj i)) (r23 : ∀ i, i < n → gF z11 23 i = b i) (hf : FeP zm (op0 st) bg oj n b) (hk : ∀ z2 : St, CM z2 zm (pS (op0 st) oj n) (pG bg oj b n) → P z2) : ∀ K15 : Int32 → St → Prop, (∀ (v14 : Int32) (z16 : St), (((v2 ≤ v14) → (∀ z18 : St, z18 = wI z16 1 ((0 : Int32)) → P z18)) ∧ (¬ (v2 ≤ v14) → (vp_in v14 5 ∧ (vp_in (gF z16 18 v14.toNatClampNeg) 16 ∧ (∀ z19 : St, z19 = wR z16 11 (upd (gF z16 11) (gF z16 18 v14.toNatClampNeg).toNatClampNeg ((1 : Int32))) → (vp_in v14 5 ∧ (vp_in v14 5 ∧ (vp_in (gF z19 18 v14.toNatClampNeg) 16 ∧ (∀ z20 : St, z20 = wR z19 12 (upd (gF z19 12) (gF z19 18 v14.toNatClampNeg).toNatClampNeg (gF z19 23 v14.toNatClampNeg)) → (∀ x21 : Int32, x21 = v14 + (1) → K15 x21 z20)))))))))) → K15 v14 z16) → K15 ((0 : Int32)) z11 := by
  have f12 : 0 ≤ (gI zm 12).toInt ∧ (gI zm 12).toInt ≤ 16 := tm.1 12
  have c12 := clampN f12.1
  have e1 : (1 : Int32).toInt = 1 := rfl
  intro K15 hK15
  have L3 : ∀ (q i : Nat) (v14 : Int32) (z16 : St), CM z16 zm (pS (op0 st) oj i) (pG bg oj b i) → gF z16 18 = gF z11 18 → gF z16 23 = gF z11 23 → v14.toInt = (i : Int) → i ≤ n → n - i < q → K15 v14 z16 := by
    intro q
    induction q with
    | zero => intro i v14 z16 _ _ _ _ _ h; omega
    | succ q ihq =>
      intro i v14 z16 cm16 w16 x16 hv hi qm
      have cv : v14.toNatClampNeg = i := by
        have := clampN (x := v14) (by omega)
        omega
      refine hK15 v14 z16 ⟨fun ce z18 e18 => ?_, fun ce => ?_⟩
      · have ce' := i_le h2 hv ce
        have ei : i = n := by omega
        rw [ei] at cm16
        refine hk z18 ⟨by rw [e18]; exact Ty_wI cm16.1 trivial, by rw [e18]; exact cm16.2.1, cm16.2.2.1.i (by decide) e18, fun o ho => by rw [e18]; exact cm16.2.2.2.1 o ho, fun o ho hs => by rw [e18]; exact cm16.2.2.2.2.1 o ho hs, cm16.2.2.2.2.2⟩
      · have ce' := i_nle h2 hv ce
        have hin : i < n := by omega
        have hoi := hoj i hin
        have hv5 : vp_in v14 5 := vin hv (by omega) (by omega)
        have e18 : gF z16 18 i = nI (oj i) := by rw [w16]; exact r18 i hin
        have i18 : (nI (oj i)).toInt = ((oj i : Nat) : Int) := nI_toInt (by omega)
        have c18 : (nI (oj i)).toNatClampNeg = oj i := nI_clamp (by omega)
        have hv16 : vp_in (nI (oj i)) 16 := vin i18 (by omega) (by omega)
        rw [cv, e18, c18]
        refine ⟨hv5, hv16, ?_⟩
        intro z19 e19
        have y18 : gF z19 18 i = nI (oj i) := by rw [e19]; exact e18
        have y23 : gF z19 23 i = b i := by rw [e19]; show gF z16 23 i = _; rw [x16]; exact r23 i hin
        rw [y18, y23, c18]
        refine ⟨hv5, hv5, hv16, ?_⟩
        intro z20 e20 x21 e21
        have i21 : x21.toInt = (i : Int) + 1 := by rw [e21]; exact a_add hv e1 (by omega) (by omega)
        have a11' : gF z20 11 = upd (gF z16 11) (oj i) 1 := by rw [e20]; show gF z19 11 = _; rw [e19, gF_wR]
        have a12' : gF z20 12 = upd (gF z16 12) (oj i) (b i) := by rw [e20, gF_wR, e19]; rfl
        have hbb := hf i hin
        have hb1 := hbb.2.1
        have hb2 := hbb.2.2.1
        have f7 : 0 ≤ (gF zm 7 (oj i)).toInt ∧ (gF zm 7 (oj i)).toInt ≤ 167 := tm.2 7 _
        have f8 : 0 ≤ (gF zm 8 (oj i)).toInt ∧ (gF zm 8 (oj i)).toInt ≤ 167 := tm.2 8 _
        have t19 : TM z19 := by rw [e19]; exact Ty_wR cm16.1 trivial
        have sx20 : Same [] [11, 12] z16 z20 := (Same.rf.r (by decide) e19).r (by decide) e20
        refine ihq (i + 1) x21 z20 ?_ ((sx20.2 18 (by decide)).trans w16) ((sx20.2 23 (by decide)).trans x16) (by omega) (by omega) (by omega)
        refine ⟨by rw [e20]; exact Ty_wR t19 trivial, FR_m cm16.2.1 sx20 (by decide) (by decide), (cm16.2.2.1.r (by decide) e19).r (by decide) e20, fun o ho => ?_, fun o ho hs => ?_, fun o ho hs => ?_⟩
        · rw [a11']
          show _ = upd _ _ _ o
          by_cases e : o = oj i
          · rw [e, upd_at, upd_at]
          · rw [upd_ne e, upd_ne e]; exact cm16.2.2.2.1 o ho
        · rw [a12']
          show _ = upd _ _ _ o
          by_cases e : o = oj i
          · rw [e, upd_at, upd_at]
          · rw [upd_ne e, upd_ne e]
            have hs' : ¬ upd (pS (op0 st) oj i) (oj i) 1 o = 0 := hs
            rw [upd_ne e] at hs'
            exact cm16.2.2.2.2.1 o ho hs'
        · show 0 ≤ (upd _ _ _ o).toInt ∧ (upd _ _ _ o).toInt ≤ 167
          by_cases e : o = oj i
          · rw [e, upd_at]; omega
          · rw [upd_ne e]
            have hs' : ¬ upd (pS (op0 st) oj i) (oj i) 1 o = 0 := hs
            rw [upd_ne e] at hs'
            exact cm16.2.2.2.2.2 o ho hs'
  exact L3 (n + 1) 0 0 z11 cm11 rfl rfl rfl (Nat.zero_le _) (by omega)
/-- all as it was -/
theorem wh_back (zm z11 : St) (P : St → Prop) (st c : Nat → Int32) (t11 : TM z11) (fr11 : FR z11) (s11 : Same PI9 PF9 zm z11) (tm : TM zm) (asv : ∀ o : Nat, (o : Int) < (gI zm 12).toInt → gF z11 19 o = st o ∧ gF z11 20 o = c o) (hk : ∀ z2 : St, TM z2 → FR z2 → Same PI9 PF9 zm z2 → (∀ o : Nat, (o : Int) < (gI zm 12).toInt → gF z2 11 o = st o ∧ gF z2 12 o = c o) → P z2) : ∀ K23 : Int32 → St → Prop, (∀ (v22 : Int32) (z24 : St), ((((gI z24 12) ≤ v22) → (∀ z26 : St, z26 = wI z24 1 ((-6 : Int32)) → P z26)) ∧ (¬ ((gI z24 12) ≤ v22) → (vp_in v22 16 ∧ (vp_in v22 16 ∧ (∀ z27 : St, z27 = wR z24 11 (upd (gF z24 11) v22.toNatClampNeg (gF z24 19 v22.toNatClampNeg)) → (vp_in v22 16 ∧ (vp_in v22 16 ∧ (∀ z28 : St, z28 = wR z27 12 (upd (gF z27 12) v22.toNatClampNeg (gF z27 20 v22.toNatClampNeg)) → (∀ x29 : Int32, x29 = v22 + (1) → K23 x29 z28))))))))) → K23 v22 z24) → K23 ((0 : Int32)) z11 := by
  have f12 : 0 ≤ (gI zm 12).toInt ∧ (gI zm 12).toInt ≤ 16 := tm.1 12
  have e1 : (1 : Int32).toInt = 1 := rfl
  have e00 : (0 : Int32).toInt = 0 := rfl
  intro K23 hK23
  have L3 : ∀ (q : Nat) (v22 : Int32) (z24 : St), TM z24 → FR z24 → Same PI9 PF9 zm z24 → gF z24 19 = gF z11 19 → gF z24 20 = gF z11 20 → 0 ≤ v22.toInt → v22.toInt ≤ (gI zm 12).toInt → (∀ o : Nat, (o : Int) < v22.toInt → gF z24 11 o = st o ∧ gF z24 12 o = c o) → (16 - v22.toInt).toNat < q → K23 v22 z24 := by
    intro q
    induction q with
    | zero => intro v22 z24 _ _ _ _ _ _ _ _ h; omega
    | succ q ihq =>
      intro v22 z24 t24 fr24 s24 w19' w20' p0 p1 hres qm
      have cv22 := clampN p0
      have r1224 : gI z24 12 = gI zm 12 := s24.1 12 (by decide)
      refine hK23 v22 z24 ⟨fun ce z26 e26 => ?_, fun ce => ?_⟩
      · rw [r1224] at ce
        have ce' := i_le rfl rfl ce
        refine hk z26 (by rw [e26]; exact Ty_wI t24 trivial) (by rw [e26]; exact fr24) (s24.i (by decide) e26) (fun o ho => ?_)
        rw [e26]
        exact hres o (by omega)
      · rw [r1224] at ce
        have ce' := i_nle rfl rfl ce
        have hv16 : vp_in v22 16 := vin rfl p0 (by omega)
        refine ⟨hv16, hv16, ?_⟩
        intro z27 e27
        have y20 : gF z27 20 = gF z24 20 := by rw [e27]; rfl
        refine ⟨hv16, hv16, ?_⟩
        intro z28 e28 x29 e29
        rw [y20] at e28
        have i29 : x29.toInt = v22.toInt + 1 := by rw [e29]; exact a_add rfl e1 (by omega) (by omega)
        have t27 : TM z27 := by rw [e27]; exact Ty_wR t24 trivial
        have a11' : gF z28 11 = upd (gF z24 11) v22.toNatClampNeg (gF z24 19 v22.toNatClampNeg) := by rw [e28]; show gF z27 11 = _; rw [e27, gF_wR]
        have a12' : gF z28 12 = upd (gF z24 12) v22.toNatClampNeg (gF z24 20 v22.toNatClampNeg) := by rw [e28, gF_wR, e27]; rfl
        have sx28 : Same [] [11, 12] z24 z28 := (Same.rf.r (by decide) e27).r (by decide) e28
        refine ihq x29 z28 (by rw [e28]; exact Ty_wR t27 trivial) (FR_m fr24 sx28 (by decide) (by decide)) ((s24.r (by decide) e27).r (by decide) e28) ((sx28.2 19 (by decide)).trans w19') ((sx28.2 20 (by decide)).trans w20') (by omega) (by omega) (fun o ho => ?_) (by omega)
        rw [a11', a12']
        by_cases e : o = v22.toNatClampNeg
        · rw [e, upd_at, upd_at, w19', w20']
          exact asv _ (by omega)
        · rw [upd_ne e, upd_ne e]; exact hres o (by omega)
  exact L3 17 0 z11 t11 fr11 s11 rfl rfl (by decide) f12.1 (fun o ho => absurd ho (by rw [e00]; omega)) (by decide)
/-- what was planned is kept aside, and open -/
theorem wh_open (zm z5 : St) (Q : St → Prop) (st : Nat → Int32) (tm : TM zm) (t5 : TM z5) (fr5 : FR z5) (s5 : Same PI9 PF9 zm z5) (h3 : ∀ o : Nat, (o : Int) < (gI zm 12).toInt → st o = 0 ∨ st o = 1 ∨ st o = 2) (h11 : ∀ o : Nat, (o : Int) < (gI zm 12).toInt → gF z5 11 o = st o) (hk : ∀ z9 : St, TM z9 → FR z9 → Same PI9 PF9 zm z9 → gF z9 18 = gF z5 18 → gF z9 12 = gF z5 12 → (∀ o : Nat, (o : Int) < (gI zm 12).toInt → gF z9 11 o = op0 st o) → (∀ o : Nat, (o : Int) < (gI zm 12).toInt → gF z9 19 o = st o ∧ gF z9 20 o = gF z5 12 o) → Q z9) : ∀ K8 : Int32 → St → Prop, (∀ (v7 : Int32) (z9 : St), ((((gI z9 12) ≤ v7) → Q z9) ∧ (¬ ((gI z9 12) ≤ v7) → (vp_in v7 16 ∧ (vp_in v7 16 ∧ (∀ z30 : St, z30 = wR z9 19 (upd (gF z9 19) v7.toNatClampNeg (gF z9 11 v7.toNatClampNeg)) → (vp_in v7 16 ∧ (vp_in v7 16 ∧ (∀ z31 : St, z31 = wR z30 20 (upd (gF z30 20) v7.toNatClampNeg (gF z30 12 v7.toNatClampNeg)) → (vp_in v7 16 ∧ (∀ K34 : Int32 → Int32 → Prop, (∀ (s32 : Int32) (s33 : Int32), (vp_in s33 16 ∧ (∀ z35 : St, z35 = wR z31 11 (upd (gF z31 11) s33.toNatClampNeg s32) → (∀ x36 : Int32, x36 = v7 + (1) → K8 x36 z35))) → K34 s32 s33) → (((¬ (gF z31 11 v7.toNatClampNeg) = ((2 : Int32))) → K34 ((0 : Int32)) v7) ∧ ((gF z31 11 v7.toNatClampNeg) = ((2 : Int32)) → K34 ((2 : Int32)) v7)))))))))))) → K8 v7 z9) → K8 ((0 : Int32)) z5 := by
  have f12 : 0 ≤ (gI zm 12).toInt ∧ (gI zm 12).toInt ≤ 16 := tm.1 12
  have e1 : (1 : Int32).toInt = 1 := rfl
  have e00 : (0 : Int32).toInt = 0 := rfl
  intro K8 hK8
  have L2 : ∀ (p : Nat) (v7 : Int32) (z9 : St), TM z9 → FR z9 → Same PI9 PF9 zm z9 → gF z9 18 = gF z5 18 → 0 ≤ v7.toInt → v7.toInt ≤ (gI zm 12).toInt → (∀ o : Nat, (o : Int) < (gI zm 12).toInt → gF z9 11 o = opK st v7.toInt o) → gF z9 12 = gF z5 12 → (∀ o : Nat, (o : Int) < v7.toInt → gF z9 19 o = st o ∧ gF z9 20 o = gF z5 12 o) → (16 - v7.toInt).toNat < p → K8 v7 z9 := by
    intro p
    induction p with
    | zero => intro v7 z9 _ _ _ _ _ _ _ _ _ q; omega
    | succ p ihp =>
      intro v7 z9 t9 fr9 s9 w18 k0 k1 a11 a12 asv pm
      have cv7 := clampN k0
      have r129 : gI z9 12 = gI zm 12 := s9.1 12 (by decide)
      refine hK8 v7 z9 ⟨fun cc => ?_, fun cc => ?_⟩
      · rw [r129] at cc
        have cc' := i_le rfl rfl cc
        exact hk z9 t9 fr9 s9 w18 a12 (fun o ho => by rw [a11 o ho, opK_lt (by omega)]) (fun o ho => asv o (by omega))
      · rw [r129] at cc
        have cc' := i_nle rfl rfl cc
        have hv16 : vp_in v7 16 := vin rfl k0 (by omega)
        have hst7 := a11 v7.toNatClampNeg (by omega)
        rw [opK_ge (by omega)] at hst7
        refine ⟨hv16, hv16, ?_⟩
        intro z30 e30
        have t30 : TM z30 := by rw [e30]; exact Ty_wR t9 trivial
        have y12 : gF z30 12 = gF z9 12 := by rw [e30]; rfl
        refine ⟨hv16, hv16, ?_⟩
        intro z31 e31
        rw [y12] at e31
        have t31 : TM z31 := by rw [e31]; exact Ty_wR t30 trivial
        have y11 : gF z31 11 = gF z9 11 := by rw [e31]; show gF z30 11 = _; rw [e30]; rfl
        refine ⟨hv16, ?_⟩
        rw [y11]
        intro K34 hK34
        have go : ∀ s32 : Int32, s32 = op0 st v7.toNatClampNeg → K34 s32 v7 := by
          intro s32 hs32
          refine hK34 s32 v7 ⟨hv16, ?_⟩
          intro z35 e35 x36 e36
          have i36 : x36.toInt = v7.toInt + 1 := by rw [e36]; exact a_add rfl e1 (by omega) (by omega)
          have s35 : Same PI9 PF9 zm z35 := ((s9.r (by decide) e30).r (by decide) e31).r (by decide) e35
          have b19 : gF z35 19 = upd (gF z9 19) v7.toNatClampNeg (gF z9 11 v7.toNatClampNeg) := by rw [e35, e31]; show gF z30 19 = _; rw [e30, gF_wR]
          have b20 : gF z35 20 = upd (gF z9 20) v7.toNatClampNeg (gF z9 12 v7.toNatClampNeg) := by rw [e35]; show gF z31 20 = _; rw [e31, gF_wR, e30]; rfl
          have sx35 : Same [] [11, 19, 20] z9 z35 := ((Same.rf.r (by decide) e30).r (by decide) e31).r (by decide) e35
          refine ihp x36 z35 (by rw [e35, ← y11]; exact Ty_wR t31 trivial) (FR_m fr9 sx35 (by decide) (by decide)) s35 ((sx35.2 18 (by decide)).trans w18) (by omega) (by omega) (fun o ho => ?_) ((sx35.2 12 (by decide)).trans a12) (fun o ho => ?_) (by omega)
          · rw [e35, ← y11, gF_upd, y11]
            by_cases e : o = v7.toNatClampNeg
            · rw [if_pos e, opK_lt (by omega), hs32, e]
            · rw [if_neg e, a11 o ho]
              by_cases e2 : (o : Int) < v7.toInt
              · rw [opK_lt e2, opK_lt (by omega)]
              · rw [opK_ge e2, opK_ge (by omega)]
          · rw [b19, b20]
            by_cases e : o = v7.toNatClampNeg
            · rw [e, upd_at, upd_at, hst7, a12]; exact ⟨rfl, rfl⟩
            · rw [upd_ne e, upd_ne e]; exact asv o (by omega)
        rw [hst7]
        refine ⟨fun c2' => go _ ?_, fun c2' => go _ ?_⟩
        · unfold op0
          rcases h3 v7.toNatClampNeg (by omega) with q | q | q
          · rw [q]; exact (if_neg (by decide)).symm
          · rw [q]; exact (if_pos rfl).symm
          · exact absurd q c2'
        · unfold op0
          rw [c2']; exact (if_neg (by decide)).symm
  refine L2 17 0 z5 t5 fr5 s5 rfl (by decide) f12.1 (fun o ho => ?_) rfl (fun o ho => absurd ho (by rw [e00]; omega)) (by decide)
  rw [opK_ge (by rw [e00]; omega)]; exact h11 o ho
set_option maxHeartbeats 4000000 in
theorem v_X9_whole (zm : St) (P : Int64 → St → Prop) (st bg : Nat → Int32) (tm : TM zm) (rm : RM zm) (cm : CM zm zm st bg) (h3 : ∀ o : Nat, (o : Int) < (gI zm 12).toInt → st o = 0 ∨ st o = 1 ∨ st o = 2) (wnd : ∀ j : Nat, (gF zm 7 j).toInt ≤ (gF zm 8 j).toInt + 1) (bd : ∀ j t : Nat, (j : Int) < (gI zm 12).toInt → -200000000 ≤ (ctM zm j t).toInt ∧ (ctM zm j t).toInt ≤ 200000000) (hk : ∀ (r : Int64) (z2 : St) (st' bg' : Nat → Int32), CM z2 zm st' bg' → WO9 zm st bg (gI zm 12).toNatClampNeg r st' bg' → P r z2) : wp_X9_whole zm P := by
  have f12 : 0 ≤ (gI zm 12).toInt ∧ (gI zm 12).toInt ≤ 16 := tm.1 12
  have c12 := clampN f12.1
  have e00 : (0 : Int32).toInt = 0 := rfl
  have e1 : (1 : Int32).toInt = 1 := rfl
  have hoj := ojC_ok st (gI zm 12).toNatClampNeg
  unfold WO9 at hk
  generalize hN : ojC st (gI zm 12).toNatClampNeg = OJ at hk hoj
  unfold wp_X9_whole
  intro z1 ez1
  have cm1 : CM z1 zm st bg := by
    refine ⟨by rw [ez1]; exact Ty_wI tm trivial, ?_, Same.rf.i (by decide) ez1, fun o ho => ?_, fun o ho hs => ?_, cm.2.2.2.2.2⟩
    · rw [ez1]; exact cm.2.1
    · rw [ez1]; exact cm.2.2.2.1 o ho
    · rw [ez1]; exact cm.2.2.2.2.1 o ho hs
  intro K4 hK4
  have L1 : ∀ (f : Nat) (v2 v3 : Int32) (z5 : St), CM z5 zm st bg → 0 ≤ v3.toInt → v3.toInt ≤ (gI zm 12).toInt → v2.toInt = ((ojC st v3.toNatClampNeg).1 : Int) → (ojC st v3.toNatClampNeg).1 ≤ 5 → (∀ i, i < (ojC st v3.toNatClampNeg).1 → gF z5 18 i = nI ((ojC st v3.toNatClampNeg).2 i)) → (16 - v3.toInt).toNat < f → K4 v2 v3 z5 := by
    intro f
    induction f with
    | zero => intro v2 v3 z5 _ _ _ _ _ _ q; omega
    | succ f ih =>
      intro v2 v3 z5 cm5 g0 g1 h2 h5 hrow gm
      have cv := clampN g0
      have c2 := clampN (x := v2) (by omega)
      have r12 : gI z5 12 = gI zm 12 := cm5.2.2.1.1 12 (by decide)
      refine hK4 v2 v3 z5 ⟨fun c => ?_, fun c => ?_⟩
      · rw [r12] at c
        have c' := i_le rfl rfl c
        have e3 : v3.toNatClampNeg = (gI zm 12).toNatClampNeg := by omega
        rw [e3, hN] at h2 h5 hrow
        refine wh_open zm z5 _ st tm cm5.1 cm5.2.1 cm5.2.2.1 h3 cm5.2.2.2.1 (fun z9 t9 fr9 s9 w18 a12 a11 asv => ?_)
        have cm9 : CM z9 zm (op0 st) bg := by
          refine ⟨t9, fr9, s9, a11, fun o ho hs => ?_, fun o ho hs => ?_⟩
          · rw [a12]
            refine cm5.2.2.2.2.1 o ho (fun q => hs ?_)
            unfold op0
            rw [q]; exact if_neg (by decide)
          · refine cm5.2.2.2.2.2 o ho (fun q => hs ?_)
            unfold op0
            rw [q]; exact if_neg (by decide)
        refine v_X9_search v2 z9 zm _ (op0 st) bg OJ.2 OJ.1 cm9 rm tm h2 h5 (fun k hk' => ?_) hoj.2.1 wnd bd (fun r z11 cm11 s11 hout => ?_)
        · have hkk := hoj.2.2 k hk'
          refine ⟨by rw [w18, hrow k hk', nI_clamp (by omega)], by omega, by omega, ?_⟩
          unfold op0
          rcases h3 _ (show ((OJ.2 k : Nat) : Int) < (gI zm 12).toInt by omega) with q | q | q
          · rw [q]; exact if_neg (by decide)
          · rw [q]; exact if_pos rfl
          · exact absurd q hkk.2
        · have w18' : gF z11 18 = gF z5 18 := (s11.2 18 (by decide)).trans w18
          have w19 : gF z11 19 = gF z9 19 := s11.2 19 (by decide)
          have w20 : gF z11 20 = gF z9 20 := s11.2 20 (by decide)
          refine ⟨fun cl => ?_, fun cl => ?_⟩
          · -- a plan
            obtain ⟨b, hbest, hrb, hrow23⟩ : ∃ b, Best zm (op0 st) bg OJ.2 OJ.1 b ∧ r.toInt = coF zm OJ.2 b OJ.1 ∧ ∀ k, k < OJ.1 → gF z11 23 k = b k := by
              rcases hout with q | q
              · exact absurd (lgc_of q.1) cl
              · exact q
            exact wh_found zm z11 (P r) st bg OJ.2 OJ.1 b v2 tm cm11 h2 h5 (fun i hi => (hoj.2.2 i hi).1) (fun i hi => by rw [w18']; exact hrow i hi) hrow23 hbest.1 (fun z2 cm2 => hk r z2 _ _ cm2 (Or.inr (Or.inr ⟨h5, b, hbest, hrb, rfl, rfl⟩)))
          · -- no plan: all as it was
            have hnone : ∀ c, ¬ FeP zm (op0 st) bg OJ.2 OJ.1 c := by
              rcases hout with q | ⟨b, hbest, hrb, _⟩
              · exact q.2
              · have hcb := coF_bd (oj := OJ.2) (c := b) bd OJ.1 (fun k hk' => by have := (hoj.2.2 k hk').1; omega)
                have := lgc0.mp cl
                rw [hrb, show (-4000000000000000000 : Int64).toInt = -4000000000000000000 from rfl] at this
                omega
            exact wh_back zm z11 (P (-4000000000000000006)) st (gF z5 12) cm11.1 cm11.2.1 cm11.2.2.1 tm (fun o ho => by rw [w19, w20]; exact asv o ho) (fun z2 t2 fr2 s2 hres => hk _ z2 st bg ⟨t2, fr2, s2, fun o ho => (hres o ho).1, fun o ho hs => by rw [(hres o ho).2]; exact cm5.2.2.2.2.1 o ho hs, cm5.2.2.2.2.2⟩ (Or.inr (Or.inl ⟨h5, hnone, rfl, rfl, rfl⟩)))
      · rw [r12] at c
        have c' := i_nle rfl rfl c
        have hv16 : vp_in v3 16 := vin rfl g0 (by omega)
        have h11 := cm5.2.2.2.1 v3.toNatClampNeg (by omega)
        refine ⟨hv16, ?_⟩
        rw [h11]
        intro K39 hK39
        refine ⟨fun c2' => hK39 v2 z5 (fun x41 e41 => ?_), fun c2' => ⟨fun c5 => ?_, fun c5 z46 e46 => ?_⟩⟩
        · have i41 : x41.toInt = v3.toInt + 1 := by rw [e41]; exact a_add rfl e1 (by omega) (by omega)
          have c41 := clampN (x := x41) (by omega)
          have e : x41.toNatClampNeg = v3.toNatClampNeg + 1 := by omega
          exact ih v2 x41 z5 cm5 (by omega) (by omega) (by rw [e, ojC_y c2']; exact h2) (by rw [e, ojC_y c2']; exact h5) (by rw [e, ojC_y c2']; exact hrow) (by omega)
        · have c5' := i_ne (q := 5) rfl rfl c5
          refine ⟨vin rfl (by omega) (by omega), ?_⟩
          intro z44 e44 x45 e45
          have i45 : x45.toInt = v2.toInt + 1 := by rw [e45]; exact a_add rfl e1 (by omega) (by omega)
          refine hK39 x45 z44 (fun x41 e41 => ?_)
          have i41 : x41.toInt = v3.toInt + 1 := by rw [e41]; exact a_add rfl e1 (by omega) (by omega)
          have c41 := clampN (x := x41) (by omega)
          have e : x41.toNatClampNeg = v3.toNatClampNeg + 1 := by omega
          have t44 : TM z44 := by rw [e44]; exact Ty_wR cm5.1 (show 0 ≤ v3.toInt ∧ v3.toInt ≤ 15 by omega)
          refine ih x45 x41 z44 ⟨t44, by rw [e44]; exact cm5.2.1, cm5.2.2.1.r (by decide) e44, fun o ho => by rw [e44]; exact cm5.2.2.2.1 o ho, fun o ho hs => by rw [e44]; exact cm5.2.2.2.2.1 o ho hs, cm5.2.2.2.2.2⟩ (by omega) (by omega) ?_ ?_ ?_ (by omega)
          · rw [e, ojC_n c2']
            show x45.toInt = (((ojC st v3.toNatClampNeg).1 + 1 : Nat) : Int)
            omega
          · rw [e, ojC_n c2']
            show (ojC st v3.toNatClampNeg).1 + 1 ≤ 5
            omega
          · rw [e, ojC_n c2']
            intro i hi
            have hi' : i < (ojC st v3.toNatClampNeg).1 + 1 := hi
            rw [e44, gF_upd]
            show _ = nI (if i = (ojC st v3.toNatClampNeg).1 then v3.toNatClampNeg else (ojC st v3.toNatClampNeg).2 i)
            by_cases ei : i = (ojC st v3.toNatClampNeg).1
            · rw [if_pos (by omega), if_pos ei]; exact nI_cl g0
            · rw [if_neg (by omega), if_neg ei]; exact hrow i (by omega)
        · have c5' : v2.toInt = 5 := i_eq rfl rfl c5
          refine hk _ z46 st bg ⟨by rw [e46]; exact Ty_wI cm5.1 trivial, by rw [e46]; exact cm5.2.1, cm5.2.2.1.i (by decide) e46, fun o ho => by rw [e46]; exact cm5.2.2.2.1 o ho, fun o ho hs => by rw [e46]; exact cm5.2.2.2.2.1 o ho hs, cm5.2.2.2.2.2⟩ (Or.inl ⟨?_, rfl, rfl, rfl⟩)
          have hm := ojC_mono st (v3.toNatClampNeg + 1) ((gI zm 12).toNatClampNeg - (v3.toNatClampNeg + 1))
          rw [show v3.toNatClampNeg + 1 + ((gI zm 12).toNatClampNeg - (v3.toNatClampNeg + 1)) = (gI zm 12).toNatClampNeg by omega, hN] at hm
          have e : (ojC st (v3.toNatClampNeg + 1)).1 = (ojC st v3.toNatClampNeg).1 + 1 := by rw [ojC_n c2']
          omega
  exact L1 _ 0 0 z1 cm1 (by decide) f12.1 rfl (show (0 : Nat) ≤ 5 by decide) (fun i hi => absurd hi (Nat.not_lt_zero _)) (Nat.lt_succ_self _)
