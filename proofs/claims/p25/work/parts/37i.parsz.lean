-- rules() OF BOTH SIDES
def OU9 (o : Sum Nat (List RC)) (r : Int32) (ft : Int32) : Prop := match o with
  | Sum.inl f => r.toInt = -6 ∧ ft.toInt = (f : Int)
  | Sum.inr cs => r.toInt = (cs.length : Int) ∧ ft.toInt = -1
theorem OU9_eq {o : Sum Nat (List RC)} {r r2 f f2 : Int32} (h : OU9 o r f) (h2 : OU9 o r2 f2) : r = r2 ∧ f.toInt = f2.toInt := by
  rcases o with g | cs
  · exact ⟨toI_inj (h.1.trans h2.1.symm), h.2.trans h2.2.symm⟩
  · exact ⟨toI_inj (h.1.trans h2.1.symm), h.2.trans h2.2.symm⟩
theorem v_X8_rules (a : Nat → Nat) (z : St) (P : Int32 → (Nat → Nat) × St → Prop) (ht : TX z) (tp : Nat → Int32) (L : Nat) (h38 : gF z 38 = tp) (hL : (gI z 3701).toInt = (L : Int)) (hk : ∀ (r : Int32) (u : (Nat → Nat) × St), TX u.2 → Same RUI RUF z u.2 → u.1 0 = a 0 → (gI u.2 3701).toInt = 0 → OU9 (pA tp L) r (gI u.2 7) → P r u) : wp_X8_rules a z P := by
  unfold wp_X8_rules
  refine v_X4_read z _ ht tp L h38 hL (fun r2 z1 t1 s1 o1 => ?_)
  have s1' : Same RUI RUF z z1 := Same.tr (z1 := z) Same.rf s1 (by decide) (by decide)
  intro K4 hK4
  have h4 : ∀ s3 : Int32, (r2 = 0 → s3 = gI z1 3702) → (r2 ≠ 0 → s3 = -1) → K4 s3 := by
    intro s3 c0 c1
    refine hK4 s3 ?_
    intro z5 e5 z6 e6
    have t5 : TX z5 := by rw [e5]; exact Ty_wI t1 trivial
    have t6 : TX z6 := by rw [e6]; exact Ty_wI t5 (show 0 ≤ (0 : Int32).toInt ∧ (0 : Int32).toInt ≤ 300 by decide)
    have s6 : Same RUI RUF z z6 := (s1'.i (by decide) e5).i (by decide) e6
    have o6 : gI z6 3701 = 0 := by rw [e6]; rfl
    have g7 : gI z6 7 = s3 := by rw [e6, e5]; rfl
    have g53 : gI z6 5203 = gI z1 5203 := by rw [e6, e5]; rfl
    refine ⟨fun c => ?_, fun c => ?_⟩
    · refine s_X8_accept _ _ _ (TX_sw t6) (fun r9 z8 t8 s8 p8 => ?_)
      refine hk r9 _ t8 ((Same_sw s6 (by decide) (by decide) (by decide) (by decide) (by decide) (by decide) (by decide) (by decide)).tr s8 (by decide) (by decide)) rfl ?_ ?_
      · show (gI z8 3701).toInt = 0
        rw [s8.1 3701 (by decide)]
        show (gI z6 3701).toInt = 0
        rw [o6]; rfl
      · show OU9 (pA tp L) r9 (gI z8 7)
        have q7 : gI z8 7 = -1 := by
          rw [s8.1 7 (by decide)]
          show gI z6 7 = -1
          rw [g7]; exact c1 c
        have q3 : gI (swZ z6) 3403 = gI z1 5203 := g53
        rcases hq : pA tp L with f | cs
        · rw [hq] at o1; exact absurd o1.1 c
        · rw [hq] at o1
          refine ⟨?_, by rw [q7]; rfl⟩
          rw [p8, q3]; exact o1.2
    · refine s_X8_refuse _ _ _ t6 (fun r9 z8 t8 s8 p8 => ?_)
      refine hk r9 _ t8 (s6.tr s8 (by decide) (by decide)) rfl ?_ ?_
      · show (gI z8 3701).toInt = 0
        rw [s8.1 3701 (by decide), o6]; rfl
      · show OU9 (pA tp L) r9 (gI z8 7)
        have q7 : gI z8 7 = gI z1 3702 := by rw [s8.1 7 (by decide), g7]; exact c0 c
        rcases hq : pA tp L with f | cs
        · rw [hq] at o1
          exact ⟨by rw [p8]; rfl, by rw [q7]; exact o1.2⟩
        · rw [hq] at o1
          have := o1.1
          rw [c] at this; exact absurd this (by decide)
  exact ⟨fun c => h4 _ (fun _ => rfl) (fun q => absurd c q), fun c => h4 _ (fun q => absurd q c) (fun _ => rfl)⟩
abbrev RLI : List Nat := [0, 1, 22, 34, 36, 37, 38, 39, 41, 42]
abbrev RLF : List Nat := [14, 15, 16, 17, 24]
set_option maxHeartbeats 1000000 in
theorem v_X9_rules (z : St) (P : Int32 → St → Prop) (ht : TM z) (tp : Nat → Int32) (L : Nat) (h25 : gF z 25 = tp) (hL : (gI z 36).toInt = (L : Int)) (hk : ∀ (r : Int32) (z2 : St), TM z2 → Same RLI RLF z z2 → (gI z2 36).toInt = 0 → OU9 (pA tp L) r (gI z2 41) → P r z2) : wp_X9_rules z P := by
  have w0 : (0 : Int32).toInt = 0 := rfl
  unfold wp_X9_rules
  intro z1 e1 z2 e2 z3 e3 z4 e4 z5 e5
  have t1 : TM z1 := by rw [e1]; exact Ty_wI ht trivial
  have t2 : TM z2 := by rw [e2]; exact Ty_wI t1 (show 0 ≤ (0 : Int32).toInt ∧ (0 : Int32).toInt ≤ 300 by decide)
  have t3 : TM z3 := by rw [e3]; exact Ty_wI t2 (show 0 ≤ (0 : Int32).toInt ∧ (0 : Int32).toInt ≤ 1 by decide)
  have t4 : TM z4 := by rw [e4]; exact Ty_wI t3 trivial
  have t5 : TM z5 := by rw [e5]; exact Ty_wI t4 (show 0 ≤ (0 : Int32).toInt ∧ (0 : Int32).toInt ≤ 20 by decide)
  have s5 : Same RLI RLF z z5 := ((((Same.rf.i (by decide) e1).i (by decide) e2).i (by decide) e3).i (by decide) e4).i (by decide) e5
  have g36 : (gI z5 36).toInt = (L : Int) := by rw [e5, e4, e3, e2, e1]; exact hL
  have g38 : (gI z5 38).toInt = ((0 : Nat) : Int) := by rw [e5, e4, e3, e2]; rfl
  have g42 : gI z5 42 = 0 := by rw [e5, e4, e3]; rfl
  have g41 : gI z5 41 = -1 := by rw [e5, e4]; rfl
  have g34 : gI z5 34 = 0 := by rw [e5]; rfl
  refine v_X9_next z5 _ t5 tp L 0 ((s5.2 25 (by decide)).trans h25) g36 g38 (Nat.zero_le _) (fun z6 t6 s6 x6 => ?_)
  have s6' : Same RLI RLF z z6 := s5.tr s6 (by decide) (by decide)
  have k6 := TK_nx tp L 0 (Nat.zero_le _)
  have b6 : gI z6 42 = 0 := b42 g42 s6 (by decide)
  have f6 : gI z6 41 = -1 := (s6.1 41 (by decide)).trans g41
  have m6 : (gI z6 34).toInt = ((0 : Nat) : Int) := by rw [s6.1 34 (by decide), g34]; rfl
  intro K8 hK8
  -- the end: what was read
  have h8 : ∀ z9 : St, TM z9 → Same RLI RLF z z9 → (match pA tp L with | Sum.inl f => ¬ gI z9 42 = 0 ∧ (gI z9 41).toInt = (f : Int) | Sum.inr cs => gI z9 42 = 0 ∧ gI z9 41 = -1 ∧ (gI z9 34).toInt = (cs.length : Int)) → K8 z9 := by
    intro z9 t9 s9 o9
    refine hK8 z9 ?_
    intro z10 e10
    have t10 : TM z10 := by rw [e10]; exact Ty_wI t9 (show 0 ≤ (0 : Int32).toInt ∧ (0 : Int32).toInt ≤ 300 by decide)
    have s10 : Same RLI RLF z z10 := s9.i (by decide) e10
    have a36 : (gI z10 36).toInt = 0 := by rw [e10]; rfl
    have a42 : gI z10 42 = gI z9 42 := by rw [e10]; rfl
    have a41 : gI z10 41 = gI z9 41 := by rw [e10]; rfl
    have a34 : gI z10 34 = gI z9 34 := by rw [e10]; rfl
    refine ⟨fun c => ?_, fun c => ?_⟩
    · rw [a42] at c
      have o9' : gI z9 41 = -1 ∧ OU9 (pA tp L) (gI z9 34) (gI z9 41) := by
        rcases hq : pA tp L with f | cs
        · rw [hq] at o9; exact absurd c o9.1
        · rw [hq] at o9; exact ⟨o9.2.1, o9.2.2, by rw [o9.2.1]; rfl⟩
      intro z12 e12
      have f34 : 0 ≤ (gI z10 34).toInt ∧ (gI z10 34).toInt ≤ 20 := t10.1 34
      have t12 : TM z12 := by rw [e12]; exact Ty_wI t10 f34
      have s12 : Same RLI RLF z z12 := s10.i (by decide) e12
      have n12 : gI z12 22 = gI z9 34 := by rw [e12]; exact a34
      have a3612 : (gI z12 36).toInt = 0 := by rw [e12]; exact a36
      have a4112 : gI z12 41 = gI z9 41 := by rw [e12]; exact a41
      intro K14 hK14
      have LL : ∀ (n : Nat) (v13 : Int32) (z15 : St), TM z15 → Same RLI RLF z z15 → Same [] [14, 15, 16, 17] z12 z15 → 0 ≤ v13.toInt → v13.toInt ≤ 20 → (20 - v13.toInt).toNat < n → K14 v13 z15 := by
        intro n
        induction n with
        | zero => intro v13 z15 _ _ _ _ _ q; omega
        | succ n ih =>
          intro v13 z15 t15 s15 d15 g0 g1 gm
          have f22 : 0 ≤ (gI z15 22).toInt ∧ (gI z15 22).toInt ≤ 20 := t15.1 22
          refine hK14 v13 z15 ⟨fun _ => ?_, fun cc => ?_⟩
          · refine s_X9_told _ _ _ t15 (fun r z17 t17 s17 p17 => ?_)
            refine hk r z17 t17 (s15.tr s17 (by decide) (by decide)) ?_ ?_
            · rw [s17.1 36 (by decide), d15.1 36 (by decide)]; exact a3612
            · rw [s17.1 41 (by decide), d15.1 41 (by decide), a4112]
              have hr : r = gI z9 34 := toI_inj (by rw [p17, d15.1 22 (by decide), n12])
              rw [hr]; exact o9'.2
          · have c' := i_nle rfl rfl cc
            have hv : vp_in v13 20 := vin rfl g0 (by omega)
            have m4 : ((4 : Int32) * v13).toInt = 4 * v13.toInt := a_mul rfl rfl (by omega) (by omega)
            refine ⟨vin m4 (by omega) (by omega), hv, ?_⟩
            intro z19 e19
            refine ⟨vin (a_add m4 (show (1 : Int32).toInt = 1 from rfl) (by omega) (by omega)) (by omega) (by omega), hv, ?_⟩
            intro z20 e20
            refine ⟨vin (a_add m4 (show (2 : Int32).toInt = 2 from rfl) (by omega) (by omega)) (by omega) (by omega), hv, ?_⟩
            intro z21 e21
            refine ⟨vin (a_add m4 (show (3 : Int32).toInt = 3 from rfl) (by omega) (by omega)) (by omega) (by omega), hv, ?_⟩
            intro z22 e22 x23 e23
            have i23 : x23.toInt = v13.toInt + 1 := by rw [e23]; exact a_add rfl rfl (by omega) (by omega)
            have t22 : TM z22 := by rw [e22]; exact Ty_wR (by rw [e21]; exact Ty_wR (by rw [e20]; exact Ty_wR (by rw [e19]; exact Ty_wR t15 trivial) trivial) trivial) trivial
            exact ih x23 z22 t22 ((((s15.r (by decide) e19).r (by decide) e20).r (by decide) e21).r (by decide) e22) ((((d15.r (by decide) e19).r (by decide) e20).r (by decide) e21).r (by decide) e22) (by omega) (by omega) (by omega)
      exact LL 21 0 z12 t12 s12 Same.rf (by omega) (by omega) (by omega)
    · rw [a42] at c
      refine s_X9_told _ _ _ t10 (fun r z17 t17 s17 p17 => ?_)
      refine hk r z17 t17 (s10.tr s17 (by decide) (by decide)) (by rw [s17.1 36 (by decide)]; exact a36) ?_
      rw [s17.1 41 (by decide), a41]
      rcases hq : pA tp L with f | cs
      · rw [hq] at o9; exact ⟨by rw [p17]; rfl, o9.2⟩
      · rw [hq] at o9; exact absurd o9.1 c
  have hso6 := x6.2.2.2.2.1
  refine ⟨fun c => ?_, fun c => ?_⟩
  · have hend : L ≤ (nx tp L 0).1 := so_0.mp (by rw [← hso6, c]; rfl)
    refine h8 z6 t6 s6' ?_
    have hA : pA tp L = Sum.inr [] := by unfold pA; rw [pIf_t hend]
    rw [hA]
    exact ⟨b6, f6, m6⟩
  · have hend : ¬ L ≤ (nx tp L 0).1 := fun q => c (toI_inj (by rw [hso6, so_0.mpr q]; rfl))
    have hA : pA tp L = pL tp L 20 (nx tp L 0) := by unfold pA; rw [pIf_f hend]
    intro K27 hK27
    have LL : ∀ (n v : Nat) (t : Nat × Nat) (z28 : St), TM z28 → Same RLI RLF z z28 → v + n = 20 → TK tp L t → OUM tp L v (-1) (pV tp L v t) z28 → REL tp L v (pL tp L n t) → K27 z28 := by
      intro n
      induction n with
      | zero =>
        intro v t z28 t28 s28 hn tk o28 hr
        have hV : pV tp L v t = Sum.inl t.1 := by unfold pV; rw [pIf_f (by omega)]
        rw [hV] at o28
        have o28 : ¬ gI z28 42 = 0 ∧ (gI z28 41).toInt = (t.1 : Int) := o28
        have hr : pA tp L = Sum.inl t.1 := hr
        have h28 : K8 z28 := h8 z28 t28 s28 (by rw [hr]; exact o28)
        refine hK27 z28 ?_
        intro K29 hK29
        have h29 : K29 := hK29 ⟨fun _ => h28, fun c => absurd c o28.1⟩
        exact ⟨fun _ => h29, fun c => absurd c o28.1⟩
      | succ n ih =>
        intro v t z28 t28 s28 hn tk o28 hr
        have hV : pV tp L v t = pR tp L t := by unfold pV; rw [pIf_t (by omega)]
        rw [hV] at o28
        rcases hp : pR tp L t with f | x
        · rw [hp] at o28
          have o28 : ¬ gI z28 42 = 0 ∧ (gI z28 41).toInt = (f : Int) := o28
          rw [pL_inl hp] at hr
          have hr : pA tp L = Sum.inl f := hr
          have h28 : K8 z28 := h8 z28 t28 s28 (by rw [hr]; exact o28)
          refine hK27 z28 ?_
          intro K29 hK29
          have h29 : K29 := hK29 ⟨fun _ => h28, fun c => absurd c o28.1⟩
          exact ⟨fun _ => h29, fun c => absurd c o28.1⟩
        · rw [hp] at o28
          have o28 : gI z28 42 = 0 ∧ SM z28 tp L x.1 ∧ TK tp L x.1 ∧ (gI z28 34).toInt = (v : Int) + 1 ∧ gI z28 41 = -1 := o28
          obtain ⟨b28, x28, k28, v28, f28⟩ := o28
          have hso := x28.2.2.2.2.1
          have hsg := sign_6 k28 x28.2.2.2.2.2
          refine hK27 z28 ?_
          intro K29 hK29
          have h29 : ¬ semi tp x.1 → K29 := by
            intro ns
            refine hK29 ⟨fun q => absurd b28 q, fun _ => ⟨fun c0 => ?_, fun c0 => ?_⟩⟩
            · have he : L ≤ x.1.1 := so_0.mp (by rw [← hso, c0]; rfl)
              rw [pL_end hp he] at hr
              obtain ⟨pre, g1, g2⟩ := hr
              refine h8 z28 t28 s28 ?_
              rw [g2]
              refine ⟨b28, f28, ?_⟩
              rw [v28, List.length_append, g1]; rfl
            · have he : ¬ L ≤ x.1.1 := fun q => c0 (toI_inj (by rw [hso, so_0.mpr q]; rfl))
              rw [pL_bad hp he ns] at hr
              have hr : pA tp L = Sum.inl x.1.1 := hr
              refine v_X9_must _ z28 _ t28 tp L _ x28 k28 b28 (fun q => absurd rfl q) (fun _ z32 t32 s32 n32 f32 => ?_)
              exact h8 z32 t32 (s28.tr s32 (by decide) (by decide)) (by rw [hr]; exact ⟨n32, f32⟩)
          refine ⟨fun q => absurd b28 q, fun _ => ⟨fun c3 => h29 (fun q => c3 (toI_inj (by rw [hso]; exact (hsg.mpr q).1))), fun c3 => ⟨fun cl => h29 (fun q => cl (lgc0.mpr ((hsg.mpr q).2.trans (by decide)))), fun cl => ?_⟩⟩⟩
          have hs : semi tp x.1 := hsg.mp ⟨by rw [← hso, c3]; rfl, (lgc0.mp cl).trans (by decide)⟩
          have he : ¬ L ≤ x.1.1 := fun q => by
            have := (so_0 (tp := tp) (t := x.1)).mpr q
            rw [← hso, c3] at this
            exact absurd this (by decide)
          refine v_X9_next z28 _ t28 tp L x.1.2 x28.1 x28.2.1 x28.2.2.2.1 k28.2.1 (fun z37 t37 s37 x37 => ?_)
          have s37' : Same RLI RLF z z37 := s28.tr s37 (by decide) (by decide)
          have b37 : gI z37 42 = 0 := b42 b28 s37 (by decide)
          have k37 : TK tp L (n1 tp L x.1) := TK_n1 k28
          refine v_X9_readRule z37 _ t37 tp L (v + 1) (n1 tp L x.1) x37 k37 b37 (by rw [s37.1 34 (by decide), v28]; rfl) (fun z39 t39 s39 o39 => ?_)
          rw [s37.1 41 (by decide), f28] at o39
          exact ih (v + 1) (n1 tp L x.1) z39 t39 (s37'.tr s39 (by decide) (by decide)) (by omega) k37 o39 (REL_next hp he hs hr)
    refine v_X9_readRule z6 _ t6 tp L 0 (nx tp L 0) x6 k6 b6 m6 (fun z41 t41 s41 o41 => ?_)
    rw [f6] at o41
    refine LL 20 0 (nx tp L 0) z41 t41 (s6'.tr s41 (by decide) (by decide)) (by omega) k6 o41 ?_
    rw [← hA]
    rcases hq : pA tp L with f | cs
    · exact hq
    · exact ⟨[], rfl, hq⟩
