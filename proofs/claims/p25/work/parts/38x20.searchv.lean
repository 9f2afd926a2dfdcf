-- THE REFERENCE'S SEARCH finds the first cheapest choice
def CK (z2 zm : St) (oj : Nat → Nat) (n : Nat) : Prop := (∀ k t : Nat, k < n → (gF zm 7 (oj k)).toInt ≤ (t : Int) → (t : Int) ≤ (gF zm 8 (oj k)).toInt → gG z2 21 (24 * k + (t - (gF zm 7 (oj k)).toNatClampNeg)) = ctM zm (oj k) t) ∧ (gG z2 22 n).toInt = 0 ∧ (∀ k t : Nat, k < n → (gF zm 7 (oj k)).toInt ≤ (t : Int) → (t : Int) ≤ (gF zm 8 (oj k)).toInt → (gG z2 22 k).toInt ≤ (ctM zm (oj k) t).toInt + (gG z2 22 (k + 1)).toInt) ∧ ∀ k, k ≤ n → -200000000 * ((n - k : Nat) : Int) ≤ (gG z2 22 k).toInt ∧ (gG z2 22 k).toInt ≤ 200000000 * ((n - k : Nat) : Int)
theorem gG_ne {z : St} {k m : Nat} {f : Nat → Int64} (h : m ≠ k) : gG (wL z k f) m = gG z m := by
  show va_up z.2.2.2 k f m = _
  unfold va_up
  rw [if_neg h]; rfl
set_option maxHeartbeats 1000000 in
theorem v_X9_findLeast (b1 : Int32) (z zm : St) (P : St → Prop) (oj : Nat → Nat) (n : Nat) (ht : TM z) (rm : RM zm) (tm : TM zm) (sz : Same PI9 PF9 zm z) (hn : b1.toInt = (n : Int)) (h5 : n ≤ 5) (ho : ∀ k, k < n → (gF z 18 k).toNatClampNeg = oj k ∧ oj k < 16 ∧ ((oj k : Nat) : Int) < (gI zm 12).toInt) (bd : ∀ j t : Nat, (j : Int) < (gI zm 12).toInt → -200000000 ≤ (ctM zm j t).toInt ∧ (ctM zm j t).toInt ≤ 200000000) (hk : ∀ z2 : St, TM z2 → Same [] [] z z2 → CK z2 zm oj n → P z2) : wp_X9_findLeast b1 z P := by
  have cb := clampN (x := b1) (by omega)
  have eb : b1.toNatClampNeg = n := by omega
  have e1 : (1 : Int32).toInt = 1 := rfl
  unfold wp_X9_findLeast
  refine ⟨vin rfl (by omega) (by omega), ?_⟩
  intro z1 ez1
  have t1 : TM z1 := by rw [ez1]; exact Ty_wL ht
  have s1 : Same [] [] z z1 := Same.rf.l ez1
  intro K3 hK3
  -- what holds once the jobs above v are through
  have L : ∀ (m : Nat) (v2 : Int32) (z4 : St), TM z4 → Same [] [] z z4 → -1 ≤ v2.toInt → v2.toInt < (n : Int) → (gG z4 22 n).toInt = 0 → (∀ k t : Nat, v2.toInt < (k : Int) → k < n → (gF zm 7 (oj k)).toInt ≤ (t : Int) → (t : Int) ≤ (gF zm 8 (oj k)).toInt → gG z4 21 (24 * k + (t - (gF zm 7 (oj k)).toNatClampNeg)) = ctM zm (oj k) t) → (∀ k t : Nat, v2.toInt < (k : Int) → k < n → (gF zm 7 (oj k)).toInt ≤ (t : Int) → (t : Int) ≤ (gF zm 8 (oj k)).toInt → (gG z4 22 k).toInt ≤ (ctM zm (oj k) t).toInt + (gG z4 22 (k + 1)).toInt) → (∀ k : Nat, v2.toInt < (k : Int) → k ≤ n → -200000000 * ((n - k : Nat) : Int) ≤ (gG z4 22 k).toInt ∧ (gG z4 22 k).toInt ≤ 200000000 * ((n - k : Nat) : Int)) → (v2.toInt + 1).toNat < m → K3 v2 z4 := by
    intro m
    induction m with
    | zero => intro v2 z4 _ _ _ _ _ _ _ _ q; omega
    | succ m ih =>
      intro v2 z4 t4 s4 g0 g1 hA hB hC hD gm
      refine hK3 v2 z4 ⟨fun c => ?_, fun c => ?_⟩
      · have c' : v2.toInt < 0 := i_lt rfl rfl c
        exact hk z4 t4 s4 ⟨fun k t h1 => hB k t (by omega) h1, hA, fun k t h1 => hC k t (by omega) h1, fun k h1 => hD k (by omega) h1⟩
      · have c' : 0 ≤ v2.toInt := i_nlt rfl rfl c
        have cv := clampN c'
        obtain ⟨o1, o2, o3⟩ := ho v2.toNatClampNeg (by omega)
        have r18 : gF z4 18 = gF z 18 := s4.2 18 (by decide)
        refine ⟨vin rfl c' (by omega), ?_⟩
        intro x6 e6
        rw [r18] at e6
        have f18 : 0 ≤ x6.toInt ∧ x6.toInt ≤ 15 := by rw [e6]; exact ht.2 18 _
        have ex6 : x6.toNatClampNeg = oj v2.toNatClampNeg := by rw [e6]; exact o1
        have hv16 : vp_in x6 16 := vin rfl f18.1 (by omega)
        have f7 : 0 ≤ (gF zm 7 (oj v2.toNatClampNeg)).toInt ∧ (gF zm 7 (oj v2.toNatClampNeg)).toInt ≤ 167 := tm.2 7 _
        have f8 : 0 ≤ (gF zm 8 (oj v2.toNatClampNeg)).toInt ∧ (gF zm 8 (oj v2.toNatClampNeg)).toInt ≤ 167 := tm.2 8 _
        have c7 := clampN f7.1
        have hwin := rm (oj v2.toNatClampNeg)
        refine ⟨hv16, ?_⟩
        rw [ex6]
        intro K9 hK9
        have L9 : ∀ (p : Nat) (v7 : Int64) (v8 : Int32) (z10 : St), TM z10 → Same [] [] z z10 → (gF zm 7 (oj v2.toNatClampNeg)).toInt ≤ v8.toInt → v8.toInt ≤ 168 → (∀ x : Nat, 24 * v2.toNatClampNeg + 24 ≤ x → gG z10 21 x = gG z4 21 x) → gG z10 22 = gG z4 22 → (∀ t : Nat, (gF zm 7 (oj v2.toNatClampNeg)).toInt ≤ (t : Int) → (t : Int) < v8.toInt → (t : Int) ≤ (gF zm 8 (oj v2.toNatClampNeg)).toInt → gG z10 21 (24 * v2.toNatClampNeg + (t - (gF zm 7 (oj v2.toNatClampNeg)).toNatClampNeg)) = ctM zm (oj v2.toNatClampNeg) t ∧ v7.toInt ≤ (ctM zm (oj v2.toNatClampNeg) t).toInt) → (-200000000 ≤ v7.toInt ∧ v7.toInt ≤ 200000000) → (168 - v8.toInt).toNat < p → K9 v7 v8 z10 := by
          intro p
          induction p with
          | zero => intro v7 v8 z10 _ _ _ _ _ _ _ _ q; omega
          | succ p ihp =>
            intro v7 v8 z10 t10 s10 d0 d1 hX hY hT hlo pm
            have w8 : gF z10 8 = gF zm 8 := (s10.2 8 (by decide)).trans (sz.2 8 (by decide))
            have w7 : gF z10 7 = gF zm 7 := (s10.2 7 (by decide)).trans (sz.2 7 (by decide))
            have sp : Same PI9 PF9 zm z10 := sz.tr s10 (by decide) (by decide)
            refine hK9 v7 v8 z10 ⟨hv16, fun cc => ?_, fun cc => ?_⟩
            · rw [w8] at cc
              have cc' := i_lt rfl rfl cc
              have iv1 : (v2 + (1 : Int32)).toInt = v2.toInt + 1 := a_add rfl e1 (by omega) (by omega)
              have cv1 := clampN (x := v2 + (1 : Int32)) (by omega)
              have ev1 : (v2 + (1 : Int32)).toNatClampNeg = v2.toNatClampNeg + 1 := by omega
              refine ⟨vin iv1 (by omega) (by omega), vin rfl c' (by omega), ?_⟩
              rw [hY, ev1]
              intro z12 e12 x13 e13
              have i13 : x13.toInt = v2.toInt - 1 := by rw [e13]; exact a_add rfl (show (-1 : Int32).toInt = -1 from rfl) (by omega) (by omega)
              have hb := hD (v2.toNatClampNeg + 1) (by omega) (by omega)
              have is : (v7 + gG z4 22 (v2.toNatClampNeg + 1)).toInt = v7.toInt + (gG z4 22 (v2.toNatClampNeg + 1)).toInt := a_addL rfl rfl (by omega) (by omega)
              have g22 : ∀ x, gG z12 22 x = if x = v2.toNatClampNeg then v7 + gG z4 22 (v2.toNatClampNeg + 1) else gG z4 22 x := fun x => by
                rw [e12]
                show va_up z10.2.2.2 22 (vp_updL (gG z4 22) v2.toNatClampNeg (v7 + gG z4 22 (v2.toNatClampNeg + 1))) 22 x = _
                unfold va_up
                rw [if_pos rfl]; rfl
              have g21 : gG z12 21 = gG z10 21 := by rw [e12]; exact gG_ne (by decide)
              refine ih x13 z12 (by rw [e12]; exact Ty_wL t10) (s10.l e12) (by omega) (by omega) ?_ (fun k t h1 h2 h3 h4 => ?_) (fun k t h1 h2 h3 h4 => ?_) (fun k h1 h2 => ?_) (by omega)
              · rw [g22, if_neg (by omega)]; exact hA
              · rw [g21]
                by_cases e : k = v2.toNatClampNeg
                · rw [e] at h3 h4 ⊢
                  exact (hT t h3 (by omega) h4).1
                · rw [hX _ (by omega)]
                  exact hB k t (by omega) h2 h3 h4
              · rw [g22, g22]
                by_cases e : k = v2.toNatClampNeg
                · rw [if_pos e, if_neg (by omega), is, e]
                  rw [e] at h3 h4
                  have := (hT t h3 (by omega) h4).2
                  omega
                · rw [if_neg e, if_neg (by omega)]
                  exact hC k t (by omega) h2 h3 h4
              · rw [g22]
                by_cases e : k = v2.toNatClampNeg
                · rw [if_pos e, is]
                  omega
                · rw [if_neg e]
                  exact hD k (by omega) h2
            · rw [w8] at cc
              have cc' := i_nlt rfl rfl cc
              have c8 := clampN (x := v8) (by omega)
              refine v_X9_costAt _ _ _ _ _ t10 (by omega) (by omega) ⟨hv16, ?_⟩
              have hcv : csM (fun k => gF z10 10 (4 * x6.toNatClampNeg + k)) (fun t => PR z10 (nI t) (gI z10 2)) v8.toNatClampNeg (gF z10 9 x6.toNatClampNeg).toNatClampNeg = ctM zm (oj v2.toNatClampNeg) v8.toNatClampNeg := by
                rw [← ctM_sp sp, ex6]; rfl
              rw [hcv, w7]
              have m24 : ((24 : Int32) * v2).toInt = 24 * v2.toInt := a_mul rfl rfl (by omega) (by omega)
              have ix : ((24 : Int32) * v2 + v8 - gF zm 7 (oj v2.toNatClampNeg)).toInt = 24 * v2.toInt + v8.toInt - (gF zm 7 (oj v2.toNatClampNeg)).toInt := a_sub (a_add m24 rfl (by omega) (by omega)) rfl (by omega) (by omega)
              have cx := clampN (x := (24 : Int32) * v2 + v8 - gF zm 7 (oj v2.toNatClampNeg)) (by omega)
              have exx : ((24 : Int32) * v2 + v8 - gF zm 7 (oj v2.toNatClampNeg)).toNatClampNeg = 24 * v2.toNatClampNeg + (v8.toNatClampNeg - (gF zm 7 (oj v2.toNatClampNeg)).toNatClampNeg) := by omega
              refine ⟨vin ix (by omega) (by omega), ?_⟩
              rw [exx]
              intro z16 e16
              have w716 : gF z16 7 = gF zm 7 := by rw [e16]; exact w7
              refine ⟨hv16, ?_⟩
              rw [w716]
              have hcb := bd (oj v2.toNatClampNeg) v8.toNatClampNeg o3
              have g21 : ∀ x, gG z16 21 x = if x = 24 * v2.toNatClampNeg + (v8.toNatClampNeg - (gF zm 7 (oj v2.toNatClampNeg)).toNatClampNeg) then ctM zm (oj v2.toNatClampNeg) v8.toNatClampNeg else gG z10 21 x := fun x => by rw [e16]; exact gG_upd
              have g22 : gG z16 22 = gG z10 22 := by rw [e16]; exact gG_ne (by decide)
              have next : ∀ s17 : Int64, (-200000000 ≤ s17.toInt ∧ s17.toInt ≤ 200000000) → s17.toInt ≤ (ctM zm (oj v2.toNatClampNeg) v8.toNatClampNeg).toInt → (∀ t : Nat, (gF zm 7 (oj v2.toNatClampNeg)).toInt ≤ (t : Int) → (t : Int) < v8.toInt → s17.toInt ≤ (ctM zm (oj v2.toNatClampNeg) t).toInt) → ∀ x19 : Int32, x19 = v8 + 1 → K9 s17 x19 z16 := by
                intro s17 hb1 hb2 hb3 x19 e19
                have i19 : x19.toInt = v8.toInt + 1 := by rw [e19]; exact a_add rfl e1 (by omega) (by omega)
                refine ihp s17 x19 z16 (by rw [e16]; exact Ty_wL t10) (s10.l e16) (by omega) (by omega) (fun x hx => ?_) (by rw [g22]; exact hY) (fun t h1 h2 h3 => ?_) hb1 (by omega)
                · rw [g21, if_neg (by omega)]; exact hX x hx
                · rw [g21]
                  by_cases e : (t : Int) = v8.toInt
                  · have et : t = v8.toNatClampNeg := by omega
                    rw [et, if_pos rfl]
                    exact ⟨rfl, hb2⟩
                  · rw [if_neg (by omega)]
                    exact ⟨(hT t h1 (by omega) h3).1, hb3 t h1 (by omega)⟩
              intro K18 hK18 K20 hK20
              have k20 : ((v8.toInt = (gF zm 7 (oj v2.toNatClampNeg)).toInt) ∨ (ctM zm (oj v2.toNatClampNeg) v8.toNatClampNeg).toInt < v7.toInt) → K20 := by
                intro hq
                refine hK20 (hK18 _ (next _ hcb (Int.le_refl _) (fun t h1 h2 => ?_)))
                rcases hq with q | q
                · omega
                · have := (hT t h1 h2 (by omega)).2
                  omega
              refine ⟨fun ce => k20 (Or.inl (i_eq rfl rfl ce)), fun ce => ⟨fun cl => hK18 _ (next v7 hlo ?_ (fun t h1 h2 => (hT t h1 h2 (by omega)).2)), fun cl => k20 (Or.inr (lgc_lt.mp (Int32.not_le.mp cl)))⟩⟩
              have : ¬ (ctM zm (oj v2.toNatClampNeg) v8.toNatClampNeg).toInt < v7.toInt := fun q => Int32.not_lt.mpr cl (lgc_lt.mpr q)
              omega
        intro x23 e23
        have w7 : gF z4 7 = gF zm 7 := (s4.2 7 (by decide)).trans (sz.2 7 (by decide))
        have i23 : x23.toInt = (gF zm 7 (oj v2.toNatClampNeg)).toInt := by rw [e23, w7]
        exact L9 _ _ x23 z4 t4 s4 (by omega) (by omega) (fun _ _ => rfl) rfl (fun t h1 h2 => by omega) (by decide) (Nat.lt_succ_self _)
  intro x24 e24
  have i24 : x24.toInt = (n : Int) - 1 := by rw [e24, a_sub hn e1 (by omega) (by omega)]
  have g22 : gG z1 22 n = 0 := by rw [ez1, gG_upd, eb, if_pos rfl]
  refine L _ x24 z1 t1 s1 (by omega) (by omega) (by rw [g22]; rfl) (fun k t h1 h2 => by omega) (fun k t h1 h2 => by omega) (fun k h1 h2 => ?_) (Nat.lt_succ_self _)
  have : k = n := by omega
  rw [this, g22, Nat.sub_self]; decide
