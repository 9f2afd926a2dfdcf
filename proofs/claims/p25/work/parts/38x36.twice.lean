-- WALKED TWICE: the first of the cheapest choices
theorem WI_mw {z z2 zm : St} {st bg : Nat → Int32} {oj : Nat → Nat} {n : Nat} {Fq : Nat → Nat → Prop} {lv : Nat} {pc : Nat → Nat} (h : WI z zm st bg oj n Fq lv pc) (h5 : n ≤ 5) (b4 : ∀ x, x < 5 * (lv + 1) → gF z2 30 x = gF z 30 x) (b5 : gG z2 31 lv = gG z 31 lv) (lo : ∀ (j : Nat) (b : Int32), loV z2 j b = loV z j b) (b6 : ∀ l, l < lv → gF z2 32 l = gF z 32 l) (b7 : ∀ h t : Nat, h < 4 → t < 168 → gF z2 10 (168 * h + t) = gF z 10 (168 * h + t)) (b8 : ∀ t : Nat, t < 168 → gF z2 12 t = gF z 12 t) : WI z2 zm st bg oj n Fq lv pc := by
  obtain ⟨a1, a2, a3, a4, a5⟩ := h
  refine ⟨fun j h1 h2 => ?_, ?_, fun l hl => ?_, PE_lo a4 b7 b8, a5⟩
  · rw [b4 (5 * lv + j) (by omega)]; exact a1 j h1 h2
  · rw [b5, a2]
    refine sL_co (n - lv) (fun j h1 h2 => ?_)
    rw [b4 (5 * lv + j) (by omega), lo]
  · rw [b6 l hl]; exact a3 l hl
theorem lx_co {n : Nat} {c c' d : Nat → Int32} (h : ∀ k, k < n → c k = c' k) (hl : lx n c d) : lx n c' d := by
  obtain ⟨k, k1, k2, k3⟩ := hl
  exact ⟨k, k1, fun l hl' => by rw [← h l (by omega)]; exact k2 l hl', by rw [← h k k1]; exact k3⟩
/-- the loads, and all rows but the search's own, are as they were -/
def TWF (z z2 : St) : Prop := TX z2 ∧ Same [2216] [10, 12, 30, 32, 33] z z2 ∧ (∀ h t : Nat, h < 4 → t < 168 → gF z2 10 (168 * h + t) = gF z 10 (168 * h + t)) ∧ ∀ t : Nat, t < 168 → gF z2 12 t = gF z 12 t
set_option maxHeartbeats 2000000 in
theorem v_X6_walkTwice (z zm : St) (P : Int32 → St → Prop) (st bg : Nat → Int32) (oj : Nat → Nat) (n : Nat) (en : EN zm st bg oj n) (ws : WS z zm st bg oj n) (gd : GD z zm st bg oj n) (hnz : ∀ i, i < n → ¬ gF z 30 i = 0) (h31 : gG z 31 0 = sL (fun j => loV z j (gF z 30 j)) 0 n) (pe : PE z (gI zm 12).toNatClampNeg (gF zm 6) (gF zm 9) (gF zm 10) st bg) (hk1 : ∀ (z2 : St) (pb : Nat → Nat), TWF z z2 → Best zm st bg oj n (cP zm oj pb) → (gJ z2 2214).toInt = coF zm oj (cP zm oj pb) n → (∀ k, k < n → pb k < 24 ∧ gF z2 33 k = nI (pb k)) → P 1 z2) (hk0 : ∀ z2 : St, TWF z z2 → (∀ pc, ¬ FeB zm st bg oj n pc) → P 0 z2) : wp_X6_walkTwice z P := by
  obtain ⟨tm, bb, hh, pb0, hr, h5, ho, bd, rm⟩ := id en
  have ht : TX z := ws.1
  have cbd : ∀ (c : Nat → Int32), -1000000000 ≤ coF zm oj c n ∧ coF zm oj c n ≤ 1000000000 := by
    intro c
    have := coF_bd (oj := oj) (c := c) bd n (fun k' hk' => (ho k' (by omega)).1)
    omega
  have z0 : (0 : Int64).toInt = 0 := rfl
  have far : (1000000000000000000 : Int64).toInt = 1000000000000000000 := rfl
  have hq1 : ∀ j p, j < n → (p < 32 ∧ bt (gF z 30 j) (nI p)) → p < 24 ∧ OFF zm st bg oj j p := fun j p hj h => gd.1 j hj p h.1 h.2
  have hq2 : ∀ pc, FeB zm st bg oj n pc → ∀ j, j < n → (pc j < 32 ∧ bt (gF z 30 j) (nI (pc j))) := fun pc hpc j hj => ⟨by have := hpc.1 j hj; omega, gd.2 pc hpc j hj⟩
  have wi0 : WI z zm st bg oj n (fun j p => p < 32 ∧ bt (gF z 30 j) (nI p)) 0 (fun _ => 0) := by
    refine ⟨fun j h1 h2 => ?_, ?_, fun l hl => by omega, pe, fun k hk => by omega⟩
    · rw [show 5 * 0 + j = j by omega]
      exact ⟨hnz j h2, fun p hp => ⟨fun h => ⟨⟨hp, h⟩, fun l hl => by omega⟩, fun h => h.1.2⟩⟩
    · rw [h31, Nat.sub_zero]
      exact sL_co n (fun j _ _ => by rw [show 5 * 0 + j = j by omega])
  have ax0 : ∀ pc, AX zm st bg oj n 0 (fun _ => 0) pc ↔ FeB zm st bg oj n pc := fun pc => ⟨fun h => h.1, fun h => ⟨h, fun l hl => by omega⟩⟩
  unfold wp_X6_walkTwice
  intro z1 e1 z2 e2 z3 e3
  have t1 : TX z1 := by rw [e1]; exact Ty_wJ ht
  have t2 : TX z2 := by rw [e2]; exact Ty_wJ t1
  have t3 : TX z3 := by rw [e3]; exact Ty_wI t2 trivial
  have o3 : Same [2216] [10, 12, 30, 32, 33] z z3 := ((Same.rf.j e1).j e2).i (by decide) e3
  have d28 : gG z3 28 = gG z 28 := by rw [e3, e2, e1]; rfl
  have g14 : gJ z3 2214 = 1000000000000000000 := by rw [e3, e2, e1]; rfl
  have g15 : gJ z3 2215 = 1000000000000000000 := by rw [e3, e2, e1]; rfl
  have ws3 : WS z3 zm st bg oj n := WS_mv ws t3 o3 d28 (by decide) (by decide)
  have wi3 : WI z3 zm st bg oj n (fun j p => p < 32 ∧ bt (gF z 30 j) (nI p)) 0 (fun _ => 0) := WI_mw wi0 h5 (fun x _ => by rw [e3, e2, e1]; rfl) (by rw [e3, e2, e1]; rfl) (fun j b => loV_same o3 (by decide) (by decide) d28) (fun l hl => by omega) (fun h t _ _ => by rw [e3, e2, e1]; rfl) (fun t _ => by rw [e3, e2, e1]; rfl)
  refine v_X6_walk zm st bg oj n _ en hq1 hq2 7 0 0 z3 _ 0 (fun _ => 0) rfl (by omega) (by omega) ws3 wi3 z0 (fun z4 fr4 pw4 => ?_)
  obtain ⟨t4, o4, d4, r4, s4, _, p4, q4⟩ := fr4
  have o4' : Same [2216] [10, 12, 30, 32, 33] z z4 := o3.tr o4 (by decide) (by decide)
  have l10 : ∀ h t : Nat, h < 4 → t < 168 → gF z4 10 (168 * h + t) = gF z 10 (168 * h + t) := fun h t h1 h2 => by rw [p4 h t h1 h2, e3, e2, e1]; rfl
  have l12 : ∀ t : Nat, t < 168 → gF z4 12 t = gF z 12 t := fun t h2 => by rw [q4 t h2, e3, e2, e1]; rfl
  rcases pw4 with ⟨u1, u2, u3, u4⟩ | ⟨pb, f1, f2, f3, f4, f5⟩
  · refine ⟨fun c => absurd (lgc_of (u2.trans g14)) c, fun c => hk0 z4 ⟨t4, o4', l10, l12⟩ (fun pc hpc => ?_)⟩
    have := u4 pc ((ax0 pc).mpr hpc)
    rw [g15, far] at this
    have := cbd (cP zm oj pc)
    omega
  · refine ⟨fun c => ?_, fun c => ?_⟩
    · have fmin : ∀ pc, FeB zm st bg oj n pc → coF zm oj (cP zm oj pb) n ≤ coF zm oj (cP zm oj pc) n := by
        rcases f5 with ⟨_, _, y⟩ | ⟨m, _, _⟩
        · exact fun pc hpc => y pc ((ax0 pc).mpr hpc)
        · exact absurd (by rw [e3]; rfl) m
      intro z7 e7 z8 e8
      have t7 : TX z7 := by rw [e7]; exact Ty_wJ t4
      have t8 : TX z8 := by rw [e8]; exact Ty_wI t7 trivial
      have o8 : Same [2216] [10, 12, 30, 32, 33] z z8 := (o4'.j e7).i (by decide) e8
      have d8 : gG z8 28 = gG z 28 := by rw [e8, e7]; exact d4.trans d28
      have bpb := cbd (cP zm oj pb)
      have h15 : (gJ z8 2215).toInt = coF zm oj (cP zm oj pb) n + 1 := by
        have e15 : gJ z8 2215 = gJ z4 2214 + 1 := by rw [e8, e7]; rfl
        rw [e15]
        exact a_addL f3 rfl (by omega) (by omega)
      have h16 : gI z8 2216 = 1 := by rw [e8]; rfl
      have ws8 : WS z8 zm st bg oj n := WS_mv ws t8 o8 d8 (by decide) (by decide)
      have wi8 : WI z8 zm st bg oj n (fun j p => p < 32 ∧ bt (gF z 30 j) (nI p)) 0 (fun _ => 0) := by
        refine WI_mw wi0 h5 (fun x hx => ?_) ?_ (fun j b => loV_same o8 (by decide) (by decide) d8) (fun l hl => by omega) (fun h t h1 h2 => ?_) (fun t h2 => ?_)
        · rw [e8, e7]
          show gF z4 30 x = _
          rw [r4 x hx, e3, e2, e1]; rfl
        · rw [e8, e7]
          show gG z4 31 0 = _
          rw [s4 0 (Nat.le_refl _), e3, e2, e1]; rfl
        · rw [e8, e7]; exact l10 h t h1 h2
        · rw [e8, e7]; exact l12 t h2
      refine v_X6_walk zm st bg oj n _ en hq1 hq2 7 0 0 z8 _ 0 (fun _ => 0) rfl (by omega) (by omega) ws8 wi8 z0 (fun z9 fr9 pw9 => ?_)
      obtain ⟨t9, o9, _, _, _, _, p9, q9⟩ := fr9
      rcases pw9 with ⟨_, _, _, u4⟩ | ⟨pb2, k1, k2, k3, k4, k5⟩
      · have := u4 pb f1
        rw [h15] at this
        omega
      · rw [h15] at k2
        rcases k5 with ⟨m, _, _⟩ | ⟨_, _, y⟩
        · rw [h16] at m
          exact absurd m (by decide)
        · have hB := (ax0 pb2).mp k1
          rw [h15] at y
          refine hk1 z9 pb2 ⟨t9, o8.tr o9 (by decide) (by decide), fun h t h1 h2 => ?_, fun t h2 => ?_⟩ ⟨hB.2, fun c' hc' => ?_⟩ k3 (fun k hk' => ⟨hB.1 k hk', k4 k hk'⟩)
          · rw [p9 h t h1 h2, e8, e7]; exact l10 h t h1 h2
          · rw [q9 t h2, e8, e7]; exact l12 t h2
          · obtain ⟨pc, hpc, heq⟩ := FeP_B tm rm hc'
            have ec : coF zm oj c' n = coF zm oj (cP zm oj pc) n := coF_co n heq
            have hmin := fmin pc hpc
            refine ⟨fun hl => ?_, fun _ => by omega⟩
            have hl' := lx_co heq hl
            refine Classical.byContradiction (fun hn => y pc ((ax0 pc).mpr hpc) (by omega) hl')
    · have := lgc0.mp c
      rw [f3, far] at this
      have := cbd (cP zm oj pb)
      omega
