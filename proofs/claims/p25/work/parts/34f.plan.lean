-- ALL AT ONCE
def JB (z : St) : Prop := ∀ l : Nat, (l : Int) < (gI z 2213).toInt → (gF z 23 l).toInt < (gI z 1308).toInt ∧ ((gF z 24 l).toInt = -1 ∨ (0 ≤ (gF z 24 l).toInt ∧ (gF z 24 l).toInt + (gF z 17 (gF z 23 l).toNatClampNeg).toInt ≤ 168))
theorem JB_same {I F : List Nat} {z z1 : St} (h : JB z) (s : Same I F z z1) (h1 : 2213 ∉ I) (h2 : 1308 ∉ I) (h17 : 17 ∉ F) (h23 : 23 ∉ F) (h24 : 24 ∉ F) : JB z1 := by
  unfold JB
  rw [s.1 2213 h1, s.1 1308 h2, s.2 17 h17, s.2 23 h23, s.2 24 h24]
  exact h
theorem k_fill_25 (z : St) (P : St → Prop) (ht : TX z) (hk : ∀ (z2 : St), TX z2 → Same [] [25] z z2 → (∀ k : Nat, k < 5 → (gF z2 25 k).toInt = 0) → P z2) : wp_J7_fill_53178_25 0 z P := by
  have e00 : (0 : Int32).toInt = 0 := rfl
  have e05 : (5 : Int32).toInt = 5 := rfl
  unfold wp_J7_fill_53178_25
  intro K3 hK3
  have L : ∀ (n : Nat) (v1 : Int32) (z4 : St), TX z4 → Same [] [25] z z4 → 0 ≤ v1.toInt → v1.toInt ≤ 5 → (∀ k : Nat, (k : Int) < v1.toInt → (gF z4 25 k).toInt = 0) → (5 - v1.toInt).toNat < n → K3 v1 5 z4 := by
    intro n
    induction n with
    | zero => intro v1 z4 _ _ _ _ _ q; omega
    | succ n ih =>
      intro v1 z4 t4 s4 g0 g1 gz gm
      refine hK3 v1 5 z4 ⟨fun c => hk z4 t4 s4 (fun k hk' => gz k (by have := i_le (p := 5) rfl rfl c; omega)), fun c => ?_⟩
      have c' := i_nle (p := 5) rfl rfl c
      have cv := clampN g0
      refine ⟨vin rfl g0 (by omega), ?_⟩
      intro z6 e6 x7 e7
      have i7 : x7.toInt = v1.toInt + 1 := by rw [e7]; exact a_add rfl rfl (by omega) (by omega)
      refine ih x7 z6 (by rw [e6]; exact Ty_wR t4 (show 0 ≤ (0 : Int32).toInt ∧ (0 : Int32).toInt ≤ 24 by decide)) (s4.r (by decide) e6) (by omega) (by omega) (fun k hk' => ?_) (by omega)
      rw [e6, gF_upd]
      by_cases e : k = v1.toNatClampNeg
      · rw [if_pos e]; rfl
      · rw [if_neg e]; exact gz k (by omega)
  exact L 6 0 z ht Same.rf (by omega) (by omega) (fun k hk' => by omega) (by omega)
theorem k_X6_clear (z : St) (P : St → Prop) (ht : TX z) (hk : ∀ (z2 : St), TX z2 → Same [2213] [25, 29, 30] z z2 → (gI z2 2213).toInt = 0 → (∀ k : Nat, k < 5 → (gF z2 25 k).toInt = 0) → P z2) : wp_X6_clear z P := by
  unfold wp_X6_clear
  intro z1 e1
  have t1 : TX z1 := by rw [e1]; exact Ty_wI ht (show 0 ≤ (0 : Int32).toInt ∧ (0 : Int32).toInt ≤ 5 by decide)
  have s1 : Same [2213] [25, 29, 30] z z1 := Same.rf.i (by decide) e1
  refine k_fill_25 z1 _ t1 (fun z2 t2 s2 g2 => ?_)
  refine s_J7_fill_53178_30 _ _ _ t2 (fun z4 t4 s4 _ => ?_)
  refine s_J7_fill_53178_29 _ _ _ t4 (fun z6 t6 s6 _ => ?_)
  refine hk z6 t6 (((s1.tr s2 (by decide) (by decide)).tr s4 (by decide) (by decide)).tr s6 (by decide) (by decide)) ?_ (fun k hk' => ?_)
  · rw [s6.1 2213 (by decide), s4.1 2213 (by decide), s2.1 2213 (by decide), e1]; rfl
  · rw [s6.2 25 (by decide), s4.2 25 (by decide)]; exact g2 k hk'
theorem k_X6_addJob (b1 b2 : Int32) (z : St) (P : St → Prop) (ht : TX z) (h0 : 0 ≤ b1.toInt ∧ b1.toInt ≤ 15) (h1 : -1 ≤ b2.toInt ∧ b2.toInt ≤ 167) (h2 : b1.toInt < (gI z 1308).toInt) (h3 : b2.toInt = -1 ∨ (0 ≤ b2.toInt ∧ b2.toInt + (gF z 17 b1.toNatClampNeg).toInt ≤ 168)) (hjb : JB z) (hk : ∀ (z2 : St), TX z2 → Same [2213] [23, 24] z z2 → JB z2 → P z2) : wp_X6_addJob b1 b2 z P := by
  have f : 0 ≤ (gI z 2213).toInt ∧ (gI z 2213).toInt ≤ 5 := ht.1 2213
  unfold wp_X6_addJob
  refine ⟨fun _ => hk z ht Same.rf hjb, fun c => ?_⟩
  have c' := i_nle (p := 5) rfl rfl c
  have cs := clampN (x := gI z 2213) (by omega)
  have hv : vp_in (gI z 2213) 5 := vin rfl (by omega) (by omega)
  refine ⟨hv, ?_⟩
  intro z2 e2
  have q2 : gI z2 2213 = gI z 2213 := by rw [e2]; rfl
  refine ⟨by rw [q2]; exact hv, ?_⟩
  intro z3 e3 z4 e4
  have q3 : gI z3 2213 = gI z 2213 := by rw [e3]; exact q2
  have t2 : TX z2 := by rw [e2]; exact Ty_wR ht h0
  have t3 : TX z3 := by rw [e3]; exact Ty_wR t2 h1
  have i4 : (gI z3 2213 + (1 : Int32)).toInt = (gI z 2213).toInt + 1 := by rw [q3]; exact a_add rfl rfl (by omega) (by omega)
  have t4 : TX z4 := by rw [e4]; exact Ty_wI t3 (show 0 ≤ (gI z3 2213 + (1 : Int32)).toInt ∧ (gI z3 2213 + (1 : Int32)).toInt ≤ 5 by omega)
  have s4 : Same [2213] [23, 24] z z4 := ((Same.rf.r (by decide) e2).r (by decide) e3).i (by decide) e4
  have g23 : ∀ j, gF z4 23 j = if j = (gI z 2213).toNatClampNeg then b1 else gF z 23 j := fun j => by rw [e4, e3]; show gF z2 23 j = _; rw [e2, gF_upd]
  have g24 : ∀ j, gF z4 24 j = if j = (gI z 2213).toNatClampNeg then b2 else gF z 24 j := fun j => by rw [e4]; show gF z3 24 j = _; rw [e3, gF_upd, q2, e2]; rfl
  have gs : (gI z4 2213).toInt = (gI z 2213).toInt + 1 := by rw [e4]; exact i4
  refine hk z4 t4 s4 (fun l hl => ?_)
  rw [gs] at hl
  rw [g23, g24, s4.1 1308 (by decide), s4.2 17 (by decide)]
  by_cases e : l = (gI z 2213).toNatClampNeg
  · rw [if_pos e, if_pos e]; exact ⟨h2, h3⟩
  · rw [if_neg e, if_neg e]; exact hjb l (by omega)
abbrev FPI : List Nat := [2213, 2216]
abbrev FPF : List Nat := [10, 12, 19, 20, 23, 24, 25, 26, 27, 29, 30, 32, 33]
theorem s_X2_planTogether (z : St) (P : Int32 → St → Prop) (ht : TX z) (hrx : RX z) (hk : ∀ (r : Int32) (z2 : St), TX z2 → Same FPI FPF z z2 → RX z2 → ((r = 1 ∧ True) ∨ (r = 0 ∧ True)) → P r z2) : wp_X2_planTogether z P := by
  have e00 : (0 : Int32).toInt = 0 := rfl
  have em1 : (-1 : Int32).toInt = -1 := rfl
  have f1308 : 0 ≤ (gI z 1308).toInt ∧ (gI z 1308).toInt ≤ 16 := ht.1 1308
  unfold wp_X2_planTogether
  refine k_X6_clear z _ ht (fun z1 t1 s1 n1 o1 => ?_)
  have x1 : RX z1 := RX_same hrx s1 (by decide) (by decide) (by decide) (by decide) (by decide) (by decide)
  intro K4 hK4
  -- the first loop: the jobs that are not done
  have L1 : ∀ (n : Nat) (v3 : Int32) (z5 : St), TX z5 → Same FPI FPF z z5 → RX z5 → JB z5 → (∀ k : Nat, k < 5 → (gF z5 25 k).toInt = 0) → 0 ≤ v3.toInt → v3.toInt ≤ 16 → (16 - v3.toInt).toNat < n → K4 v3 z5 := by
    intro n
    induction n with
    | zero => intro v3 z5 _ _ _ _ _ _ _ q; omega
    | succ n ih =>
      intro v3 z5 t5 s5 x5 j5 o5 g0 g1 gm
      have r1308 : gI z5 1308 = gI z 1308 := s5.1 1308 (by decide)
      refine hK4 v3 z5 ⟨fun c => ?_, fun c => ?_⟩
      · -- the second loop: their hours
        have fs5 : FS z5 := fun i a hi ha => by rw [o5 i hi] at ha; omega
        intro K8 hK8
        have L2 : ∀ (n : Nat) (v7 : Int32) (z9 : St), TX z9 → Same FPI FPF z z9 → RX z9 → JB z9 → FS z9 → (∀ k : Nat, v7.toInt ≤ k → k < 5 → (gF z9 25 k).toInt = 0) → 0 ≤ v7.toInt → v7.toInt ≤ 5 → (5 - v7.toInt).toNat < n → K8 v7 z9 := by
          intro n
          induction n with
          | zero => intro v7 z9 _ _ _ _ _ _ _ _ q; omega
          | succ n ih2 =>
            intro v7 z9 t9 s9 x9 j9 fs9 o9 g0 g1 gm
            have f9 : 0 ≤ (gI z9 2213).toInt ∧ (gI z9 2213).toInt ≤ 5 := t9.1 2213
            refine hK8 v7 z9 ⟨fun c => ?_, fun c => ?_⟩
            · refine s_X6_prepare_34 z9 _ t9 fs9 (fun r12 z11 t11 s11 fs11 hr12 => ?_)
              have s11' : Same FPI FPF z z11 := s9.tr s11 (by decide) (by decide)
              have x11 : RX z11 := RX_same x9 s11 (by decide) (by decide) (by decide) (by decide) (by decide) (by decide)
              have j11 : JB z11 := JB_same j9 s11 (by decide) (by decide) (by decide) (by decide) (by decide)
              intro K14 hK14
              have h14 : ∀ (s13 : Int32) (z15 : St), TX z15 → Same FPI FPF z z15 → RX z15 → JB z15 → (s13 = 0 ∨ (s13 = 1 ∧ ∀ l : Nat, (l : Int) < (gI z15 2213).toInt → OKp z15 l (gF z15 33 l))) → K14 s13 z15 := by
                intro s13 z15 t15 s15 x15 j15 hs
                refine hK14 s13 z15 ?_
                have f15 : 0 ≤ (gI z15 2213).toInt ∧ (gI z15 2213).toInt ≤ 5 := t15.1 2213
                intro K17 hK17
                have L3 : ∀ (n : Nat) (v16 : Int32) (z18 : St), TX z18 → Same [] [10, 12, 19, 20] z15 z18 → RX z18 → 0 ≤ v16.toInt → v16.toInt ≤ 5 → (5 - v16.toInt).toNat < n → K17 v16 z18 := by
                  intro n
                  induction n with
                  | zero => intro v16 z18 _ _ _ _ _ q; omega
                  | succ n ih3 =>
                    intro v16 z18 t18 s18 x18 g0 g1 gm
                    have q2213 : gI z18 2213 = gI z15 2213 := s18.1 2213 (by decide)
                    have q1308 : gI z18 1308 = gI z15 1308 := s18.1 1308 (by decide)
                    have q23 : gF z18 23 = gF z15 23 := s18.2 23 (by decide)
                    have q24 : gF z18 24 = gF z15 24 := s18.2 24 (by decide)
                    have q15 : gF z18 15 = gF z15 15 := s18.2 15 (by decide)
                    have q17 : gF z18 17 = gF z15 17 := s18.2 17 (by decide)
                    have q33 : gF z18 33 = gF z15 33 := s18.2 33 (by decide)
                    refine hK17 v16 z18 ⟨fun c => ⟨?_, ?_⟩, fun c => ?_⟩
                    · rcases hs with q | q
                      · exact Or.inl q
                      · exact Or.inr q.1
                    · refine hk s13 z18 t18 (s15.tr s18 (by decide) (by decide)) x18 ?_
                      rcases hs with q | q
                      · exact Or.inr ⟨q, trivial⟩
                      · exact Or.inl ⟨q.1, trivial⟩
                    · have c' := i_nle rfl rfl c
                      rw [q2213] at c'
                      have cv := clampN g0
                      have jb := j15 v16.toNatClampNeg (by omega)
                      have hv5 : vp_in v16 5 := vin rfl g0 (by omega)
                      refine ⟨hv5, ?_⟩
                      intro x20 e20
                      rw [q23] at e20
                      have f20 : 0 ≤ x20.toInt ∧ x20.toInt ≤ 15 := by rw [e20]; exact t15.2 23 _
                      intro K22 hK22
                      have hgo : ∀ s21 : Int32, s21.toInt = -1 ∨ (0 ≤ s21.toInt ∧ s21.toInt ≤ 167 ∧ s21.toInt + (gF z18 17 x20.toNatClampNeg).toInt ≤ 168) → K22 s21 := by
                        intro s21 h21
                        refine hK22 s21 ?_
                        intro K23 hK23
                        have hnext : ∀ z24 : St, TX z24 → Same [] [10, 12, 19, 20] z15 z24 → RX z24 → K23 z24 := by
                          intro z24 t24 s24 x24
                          refine hK23 z24 (fun x25 e25 => ?_)
                          have i25 : x25.toInt = v16.toInt + 1 := by rw [e25]; exact a_add rfl rfl (by omega) (by omega)
                          exact ih3 x25 z24 t24 s24 x24 (by omega) (by omega) (by omega)
                        refine ⟨fun _ => hnext z18 t18 s18 x18, fun c21 => ?_⟩
                        have c21' := i_ne (q := -1) rfl rfl c21
                        have h21' : 0 ≤ s21.toInt ∧ s21.toInt ≤ 167 ∧ s21.toInt + (gF z18 17 x20.toNatClampNeg).toInt ≤ 168 := by
                          rcases h21 with q | q
                          · exact absurd q c21'
                          · exact q
                        exact s_X1_plan _ _ _ _ t18 x18 f20 ⟨h21'.1, h21'.2.1⟩ (by rw [q1308, e20]; exact jb.1) h21'.2.2 (fun z27 t27 s27 x27 _ => hnext z27 t27 (s18.tr s27 (by decide) (by decide)) x27)
                      refine ⟨fun _ => ⟨hv5, hgo _ ?_⟩, fun c13 => ⟨vin rfl (by omega) (by omega), hv5, hgo _ ?_⟩⟩
                      · rw [q24, q17, e20]
                        have f24 : -1 ≤ (gF z15 24 v16.toNatClampNeg).toInt ∧ (gF z15 24 v16.toNatClampNeg).toInt ≤ 167 := t15.2 24 _
                        rcases jb.2 with q | q
                        · exact Or.inl q
                        · exact Or.inr ⟨q.1, f24.2, q.2⟩
                      · have f15 : 0 ≤ (gF z15 15 x20.toNatClampNeg).toInt ∧ (gF z15 15 x20.toNatClampNeg).toInt ≤ 167 := t15.2 15 _
                        have f33 : 0 ≤ (gF z15 33 v16.toNatClampNeg).toInt ∧ (gF z15 33 v16.toNatClampNeg).toInt ≤ 23 := t15.2 33 _
                        have hb : OKp z15 v16.toNatClampNeg (gF z15 33 v16.toNatClampNeg) := by
                          rcases hs with q | q
                          · exact absurd q c13
                          · exact q.2 v16.toNatClampNeg (by omega)
                        unfold OKp at hb
                        rw [← e20] at hb
                        have ia : (gF z18 15 x20.toNatClampNeg + gF z18 33 v16.toNatClampNeg).toInt = (gF z15 15 x20.toNatClampNeg).toInt + (gF z15 33 v16.toNatClampNeg).toInt := by
                          rw [q15, q33]; exact a_add rfl rfl (by omega) (by omega)
                        rw [ia, q17]
                        omega
                exact L3 6 0 z15 t15 Same.rf x15 (by omega) (by omega) (by omega)
              intro K30 hK30
              have h30 : ∀ z31 : St, TX z31 → Same FPI FPF z z31 → RX z31 → JB z31 → K30 z31 := fun z31 t31 s31 x31 j31 => hK30 z31 (h14 0 z31 t31 s31 x31 j31 (Or.inl rfl))
              refine ⟨fun _ => h30 z11 t11 s11' x11 j11, fun _ => ?_⟩
              refine s_X6_walkTwice z11 _ t11 fs11 (fun r34 z33 t33 s33 hr => ?_)
              have s33' : Same FPI FPF z z33 := s11'.tr s33 (by decide) (by decide)
              have x33 : RX z33 := RX_same x11 s33 (by decide) (by decide) (by decide) (by decide) (by decide) (by decide)
              have j33 : JB z33 := JB_same j11 s33 (by decide) (by decide) (by decide) (by decide) (by decide)
              refine ⟨fun _ => h30 z33 t33 s33' x33 j33, fun c34 => h14 1 z33 t33 s33' x33 j33 (Or.inr ⟨rfl, ?_⟩)⟩
              rcases hr with q | q
              · exact q.2
              · exact absurd q.1 c34
            · have c' := i_nle rfl rfl c
              have cv := clampN g0
              refine k_X2_offerHours _ _ _ t9 x9 fs9 g0 (by omega) (o9 _ (by omega) (by omega)) (fun z36 t36 s36 fs36 k36 => ?_)
              intro x38 e38
              have i38 : x38.toInt = v7.toInt + 1 := by rw [e38]; exact a_add rfl rfl (by omega) (by omega)
              refine ih2 x38 z36 t36 (s9.tr s36 (by decide) (by decide)) (RX_same x9 s36 (by decide) (by decide) (by decide) (by decide) (by decide) (by decide)) (JB_same j9 s36 (by decide) (by decide) (by decide) (by decide) (by decide)) fs36 (fun k h1 h2 => ?_) (by omega) (by omega) (by omega)
              rw [k36 k (by omega)]
              exact o9 k (by omega) h2
        exact L2 6 0 z5 t5 s5 x5 j5 fs5 (fun k _ h => o5 k h) (by omega) (by omega) (by omega)
      · have c' := i_nle rfl rfl c
        rw [r1308] at c'
        have cv := clampN g0
        have hv16 : vp_in v3 16 := vin rfl g0 (by omega)
        refine ⟨hv16, ?_⟩
        intro K39 hK39
        have hnext : ∀ z40 : St, TX z40 → Same FPI FPF z z40 → RX z40 → JB z40 → (∀ k : Nat, k < 5 → (gF z40 25 k).toInt = 0) → K39 z40 := by
          intro z40 t40 s40 x40 j40 o40
          refine hK39 z40 (fun x41 e41 => ?_)
          have i41 : x41.toInt = v3.toInt + 1 := by rw [e41]; exact a_add rfl rfl (by omega) (by omega)
          exact ih x41 z40 t40 s40 x40 j40 o40 (by omega) (by omega) (by omega)
        refine ⟨fun _ => hnext z5 t5 s5 x5 j5 o5, fun _ => ⟨hv16, ?_⟩⟩
        have f20 : -1 ≤ (gF z5 20 v3.toNatClampNeg).toInt ∧ (gF z5 20 v3.toNatClampNeg).toInt ≤ 167 := t5.2 20 _
        refine k_X6_addJob _ _ _ _ t5 (by omega) f20 (by rw [r1308]; omega) ?_ j5 (fun z43 t43 s43 j43 => ?_)
        · rcases x5.1 v3.toNatClampNeg with q | q
          · exact Or.inl (x5.2.2.2 v3.toNatClampNeg (by rw [r1308]; omega) q)
          · exact Or.inr q
        · have x43 : RX z43 := RX_same x5 s43 (by decide) (by decide) (by decide) (by decide) (by decide) (by decide)
          refine s_X1_reopen _ _ _ t43 x43 (by omega) (fun z45 t45 s45 x45 _ => ?_)
          refine hnext z45 t45 ((s5.tr s43 (by decide) (by decide)).tr s45 (by decide) (by decide)) x45 (JB_same j43 s45 (by decide) (by decide) (by decide) (by decide) (by decide)) (fun k hk' => ?_)
          rw [s45.2 25 (by decide), s43.2 25 (by decide)]
          exact o5 k hk'
  exact L1 17 0 z1 t1 (Same.tr (z1 := z) Same.rf s1 (by decide) (by decide)) x1 (fun l hl => by rw [n1] at hl; omega) o1 (by omega) (by omega) (by omega)
theorem s_X8_whole (z : St) (P : Int64 → St → Prop) (ht : TX z) (hrx : RX z) (hk : ∀ (r : Int64) (z2 : St), TX z2 → Same [8, 2213, 2216] [10, 12, 19, 20, 23, 24, 25, 26, 27, 29, 30, 32, 33] z z2 → RX z2 → True → P r z2) : wp_X8_whole z P := by
  unfold wp_X8_whole
  refine s_X1_inState _ _ _ ht (fun r2 _ => ?_)
  refine ⟨fun _ => ?_, fun _ => ?_⟩
  · refine s_X2_planTogether z _ ht hrx (fun r5 z4 t4 s4 x4 _ => ?_)
    have s4' : Same [8, 2213, 2216] [10, 12, 19, 20, 23, 24, 25, 26, 27, 29, 30, 32, 33] z z4 := Same.tr (z1 := z) Same.rf s4 (by decide) (by decide)
    refine ⟨fun _ => ?_, fun _ => ?_⟩
    · exact s_X8_accept _ _ _ t4 (fun r8 z7 t7 s7 _ => hk _ z7 t7 (s4'.tr s7 (by decide) (by decide)) (RX_same x4 s7 (by decide) (by decide) (by decide) (by decide) (by decide) (by decide)) trivial)
    · exact s_X8_refuse _ _ _ t4 (fun r8 z7 t7 s7 _ => hk _ z7 t7 (s4'.tr s7 (by decide) (by decide)) (RX_same x4 s7 (by decide) (by decide) (by decide) (by decide) (by decide) (by decide)) trivial)
  · exact s_X8_refuse _ _ _ ht (fun r8 z7 t7 s7 _ => hk _ z7 t7 (Same.tr (z1 := z) Same.rf s7 (by decide) (by decide)) (RX_same hrx s7 (by decide) (by decide) (by decide) (by decide) (by decide) (by decide)) trivial)
