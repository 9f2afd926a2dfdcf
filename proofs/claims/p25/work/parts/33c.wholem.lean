-- THE REFERENCE'S whole()
abbrev WR9 : List Nat := [11, 12, 13, 18, 19, 20, 23]
theorem s_X9_whole (z : St) (P : Int64 → St → Prop) (ht : TM z) (hrm : RM z) (hk : ∀ (r : Int64) (z2 : St), TM z2 → Same [0, 1, 21] WR9 z z2 → P r z2) : wp_X9_whole z P := by
  have e00 : (0 : Int32).toInt = 0 := rfl
  unfold wp_X9_whole
  intro z1 e1
  have t1 : TM z1 := by rw [e1]; exact Ty_wI ht trivial
  have s1 : Same [0, 1, 21] WR9 z z1 := Same.rf.i (by decide) e1
  have f12 : 0 ≤ (gI z 12).toInt ∧ (gI z 12).toInt ≤ 16 := ht.1 12
  intro K4 hK4
  have L1 : ∀ (n : Nat) (v2 v3 : Int32) (z5 : St), TM z5 → Same [0, 1, 21] WR9 z z5 → 0 ≤ v2.toInt → v2.toInt ≤ 5 → 0 ≤ v3.toInt → v3.toInt ≤ 16 → (∀ k k' : Nat, k < k' → (k' : Int) < v2.toInt → (gF z5 18 k).toInt < (gF z5 18 k').toInt) → (∀ k : Nat, (k : Int) < v2.toInt → (gF z5 18 k).toInt < v3.toInt) → (16 - v3.toInt).toNat < n → K4 v2 v3 z5 := by
    intro n
    induction n with
    | zero => intro v2 v3 z5 _ _ _ _ _ _ _ _ q; omega
    | succ n ih =>
      intro v2 v3 z5 t5 s5 a0 a1 g0 g1 hd hl gm
      have r12 : gI z5 12 = gI z 12 := s5.1 12 (by decide)
      refine hK4 v2 v3 z5 ⟨fun c => ?_, fun c => ?_⟩
      · intro K8 hK8
        have L2 : ∀ (m : Nat) (v7 : Int32) (z9 : St), TM z9 → Same [0, 1, 21] WR9 z z9 → Same [] [11, 19, 20] z5 z9 → 0 ≤ v7.toInt → v7.toInt ≤ 16 → (16 - v7.toInt).toNat < m → K8 v7 z9 := by
          intro m
          induction m with
          | zero => intro v7 z9 _ _ _ _ _ q; omega
          | succ m ih2 =>
            intro v7 z9 t9 s9 s9' q0 q1 qm
            have r12' : gI z9 12 = gI z 12 := s9.1 12 (by decide)
            refine hK8 v7 z9 ⟨fun c => ?_, fun c => ?_⟩
            · refine s_X9_search _ _ _ t9 (RM_same hrm s9 (by decide) (by decide)) ⟨a0, a1⟩ (fun k k' h1 h2 => by rw [s9'.2 18 (by decide)]; exact hd k k' h1 h2) (fun r12 z11 t11 s11 => ?_)
              have s11' : Same [0, 1, 21] WR9 z z11 := s9.tr s11 (by decide) (by decide)
              refine ⟨fun _ => ?_, fun _ => ?_⟩
              · intro K15 hK15
                have L3 : ∀ (p : Nat) (v14 : Int32) (z16 : St), TM z16 → Same [0, 1, 21] WR9 z z16 → 0 ≤ v14.toInt → v14.toInt ≤ 5 → (5 - v14.toInt).toNat < p → K15 v14 z16 := by
                  intro p
                  induction p with
                  | zero => intro v14 z16 _ _ _ _ q; omega
                  | succ p ih3 =>
                    intro v14 z16 t16 s16 p0 p1 pm
                    refine hK15 v14 z16 ⟨fun _ z18 e18 => hk _ z18 (by rw [e18]; exact Ty_wI t16 trivial) (s16.i (by decide) e18), fun c => ?_⟩
                    have c' := i_nle rfl rfl c
                    have hv5 : vp_in v14 5 := vin rfl p0 (by omega)
                    have f18 : 0 ≤ (gF z16 18 v14.toNatClampNeg).toInt ∧ (gF z16 18 v14.toNatClampNeg).toInt ≤ 15 := t16.2 18 _
                    have hv16 : vp_in (gF z16 18 v14.toNatClampNeg) 16 := vin rfl f18.1 (by omega)
                    refine ⟨hv5, hv16, ?_⟩
                    intro z19 e19
                    have y18 : gF z19 18 = gF z16 18 := by rw [e19]; rfl
                    refine ⟨hv5, hv5, by rw [y18]; exact hv16, ?_⟩
                    intro z20 e20 x21 e21
                    have i21 : x21.toInt = v14.toInt + 1 := by rw [e21]; exact a_add rfl rfl (by omega) (by omega)
                    have t19 : TM z19 := by rw [e19]; exact Ty_wR t16 trivial
                    exact ih3 x21 z20 (by rw [e20]; exact Ty_wR t19 trivial) ((s16.r (by decide) e19).r (by decide) e20) (by omega) (by omega) (by omega)
                exact L3 6 0 z11 t11 s11' (by omega) (by omega) (by omega)
              · intro K23 hK23
                have L3 : ∀ (p : Nat) (v22 : Int32) (z24 : St), TM z24 → Same [0, 1, 21] WR9 z z24 → 0 ≤ v22.toInt → v22.toInt ≤ 16 → (16 - v22.toInt).toNat < p → K23 v22 z24 := by
                  intro p
                  induction p with
                  | zero => intro v22 z24 _ _ _ _ q; omega
                  | succ p ih3 =>
                    intro v22 z24 t24 s24 p0 p1 pm
                    have r12'' : gI z24 12 = gI z 12 := s24.1 12 (by decide)
                    refine hK23 v22 z24 ⟨fun _ z26 e26 => hk _ z26 (by rw [e26]; exact Ty_wI t24 trivial) (s24.i (by decide) e26), fun c => ?_⟩
                    have c' := i_nle rfl rfl c
                    rw [r12''] at c'
                    have hv16 : vp_in v22 16 := vin rfl p0 (by omega)
                    refine ⟨hv16, hv16, ?_⟩
                    intro z27 e27
                    refine ⟨hv16, hv16, ?_⟩
                    intro z28 e28 x29 e29
                    have i29 : x29.toInt = v22.toInt + 1 := by rw [e29]; exact a_add rfl rfl (by omega) (by omega)
                    have t27 : TM z27 := by rw [e27]; exact Ty_wR t24 trivial
                    exact ih3 x29 z28 (by rw [e28]; exact Ty_wR t27 trivial) ((s24.r (by decide) e27).r (by decide) e28) (by omega) (by omega) (by omega)
                exact L3 17 0 z11 t11 s11' (by omega) (by omega) (by omega)
            · have c' := i_nle rfl rfl c
              rw [r12'] at c'
              have hv16 : vp_in v7 16 := vin rfl q0 (by omega)
              refine ⟨hv16, hv16, ?_⟩
              intro z30 e30
              have t30 : TM z30 := by rw [e30]; exact Ty_wR t9 trivial
              refine ⟨hv16, hv16, ?_⟩
              intro z31 e31
              have t31 : TM z31 := by rw [e31]; exact Ty_wR t30 trivial
              refine ⟨hv16, ?_⟩
              intro K34 hK34
              have h34 : ∀ s32 : Int32, K34 s32 v7 := by
                intro s32
                refine hK34 s32 v7 ⟨hv16, ?_⟩
                intro z35 e35 x36 e36
                have i36 : x36.toInt = v7.toInt + 1 := by rw [e36]; exact a_add rfl rfl (by omega) (by omega)
                exact ih2 x36 z35 (by rw [e35]; exact Ty_wR t31 trivial) (((s9.r (by decide) e30).r (by decide) e31).r (by decide) e35) (((s9'.r (by decide) e30).r (by decide) e31).r (by decide) e35) (by omega) (by omega) (by omega)
              exact ⟨fun _ => h34 _, fun _ => h34 _⟩
        exact L2 17 0 z5 t5 s5 Same.rf (by omega) (by omega) (by omega)
      · have c' := i_nle rfl rfl c
        rw [r12] at c'
        have hv16 : vp_in v3 16 := vin rfl g0 (by omega)
        refine ⟨hv16, ?_⟩
        intro K39 hK39
        refine ⟨fun _ => hK39 v2 z5 (fun x41 e41 => ?_), fun _ => ⟨fun c5 => ?_, fun _ z46 e46 => hk _ z46 (by rw [e46]; exact Ty_wI t5 trivial) (s5.i (by decide) e46)⟩⟩
        · have i41 : x41.toInt = v3.toInt + 1 := by rw [e41]; exact a_add rfl rfl (by omega) (by omega)
          exact ih v2 x41 z5 t5 s5 a0 a1 (by omega) (by omega) hd (fun k hk' => by have := hl k hk'; omega) (by omega)
        · have c5' := i_ne (q := 5) rfl rfl c5
          have cv := clampN a0
          refine ⟨vin rfl a0 (by omega), ?_⟩
          intro z44 e44 x45 e45
          have i45 : x45.toInt = v2.toInt + 1 := by rw [e45]; exact a_add rfl rfl (by omega) (by omega)
          have y18 : ∀ k, gF z44 18 k = if k = v2.toNatClampNeg then v3 else gF z5 18 k := fun k => by rw [e44, gF_upd]
          refine hK39 x45 z44 (fun x41 e41 => ?_)
          have i41 : x41.toInt = v3.toInt + 1 := by rw [e41]; exact a_add rfl rfl (by omega) (by omega)
          refine ih x45 x41 z44 (by rw [e44]; exact Ty_wR t5 (show 0 ≤ v3.toInt ∧ v3.toInt ≤ 15 by omega)) (s5.r (by decide) e44) (by omega) (by omega) (by omega) (by omega) (fun k k' h1 h2 => ?_) (fun k h1 => ?_) (by omega)
          · rw [y18, y18, if_neg (show ¬ k = v2.toNatClampNeg by omega)]
            by_cases e : k' = v2.toNatClampNeg
            · rw [if_pos e]; exact hl k (by omega)
            · rw [if_neg e]; exact hd k k' h1 (by omega)
          · rw [y18]
            by_cases e : k = v2.toNatClampNeg
            · rw [if_pos e]; omega
            · rw [if_neg e]; have := hl k (by omega); omega
  exact L1 17 0 0 z1 t1 s1 (by omega) (by omega) (by omega) (by omega) (fun k k' h1 h2 => by omega) (fun k h1 => by omega) (by omega)
