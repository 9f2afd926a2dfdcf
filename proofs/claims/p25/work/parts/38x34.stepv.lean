-- ONE STEP of the walk
set_option maxHeartbeats 1000000 in
theorem v_X6_step (Wk : Int32 → Int64 → St → (St → Prop) → Prop) (b1 b2 : Int32) (b3 : Int64) (z zm : St) (P : St → Prop) (st bg : Nat → Int32) (oj : Nat → Nat) (n lv p : Nat) (pc : Nat → Nat) (en : EN zm st bg oj n) (ws : WS z zm st bg oj n) (e1 : b1 = nI lv) (e2 : b2 = nI p) (hp : p < 24) (hlv : lv < n) (h24 : ∀ l, l < lv → pc l < 24) (pe : PE z (gI zm 12).toNatClampNeg (gF zm 6) (gF zm 9) (gF zm 10) (pS st oj lv) (pG bg oj (cP zm oj pc) lv)) (fe : FeP zm st bg oj lv (cP zm oj pc)) (hof : OFF zm st bg oj lv p) (hcm : ∀ l, l < lv → CMP zm st bg (oj l) (oj lv) (pl zm oj l (pc l)) (pl zm oj lv p)) (hW : ∀ (zz : St) (Q : St → Prop), TX zz → Same [] [10, 12, 32] z zz → zz.2.2 = z.2.2 → gF zz 32 = upd (gF z 32) lv (nI p) → PE zz (gI zm 12).toNatClampNeg (gF zm 6) (gF zm 9) (gF zm 10) (pS st oj (lv + 1)) (pG bg oj (cP zm oj (uP pc lv p)) (lv + 1)) → FeP zm st bg oj (lv + 1) (cP zm oj (uP pc lv p)) → (∀ z8 : St, FRM zz z8 (lv + 1) → PW zm oj n zz z8 (AX zm st bg oj n (lv + 1) (uP pc lv p)) → Q z8) → Wk (b1 + (1 : Int32)) b3 zz Q) (hk : ∀ z2 : St, FRM z z2 lv → PW zm oj n z z2 (AX zm st bg oj n (lv + 1) (uP pc lv p)) → P z2) : wp_X6_step Wk b1 b2 b3 z P := by
  obtain ⟨tm, bb, hh, pb, hr, h5, ho, bd, rm⟩ := id en
  obtain ⟨ht, hn, se, hjs, hft⟩ := id ws
  have f12 : 0 ≤ (gI zm 12).toInt ∧ (gI zm 12).toInt ≤ 16 := tm.1 12
  have c12 := clampN f12.1
  have hj := (ho lv hlv).1
  have h23 := (hjs lv hlv).1
  have i1 : b1.toInt = (lv : Int) := by rw [e1, nI_toInt (by omega)]
  have c1 : b1.toNatClampNeg = lv := by rw [e1, nI_clamp (by omega)]
  have i2 : b2.toInt = (p : Int) := by rw [e2, nI_toInt (by omega)]
  have ij : (nI (oj lv)).toInt = ((oj lv : Nat) : Int) := nI_toInt (by omega)
  have cj : (nI (oj lv)).toNatClampNeg = oj lv := nI_clamp (by omega)
  have hv5 : vp_in b1 5 := vin i1 (by omega) (by omega)
  have hv16 : vp_in (nI (oj lv)) 16 := vin ij (by omega) (by omega)
  have f7 : 0 ≤ (gF zm 7 (oj lv)).toInt ∧ (gF zm 7 (oj lv)).toInt ≤ 167 := tm.2 7 _
  have c7 := clampN f7.1
  have f9 : 0 ≤ (gF zm 9 (oj lv)).toInt ∧ (gF zm 9 (oj lv)).toInt ≤ 4 := tm.2 9 _
  have eF : Fi zm oj lv = (gF zm 7 (oj lv)).toNatClampNeg := rfl
  have ob := OFF_b tm hof
  have epl : pl zm oj lv p = ((Fi zm oj lv + p : Nat) : Int) := rfl
  obtain ⟨q14, q15, q16, q17, q18⟩ := se.2.1
  have hpb := pre_pl tm pb hr (by omega : lv ≤ n) fe
  have agr : ∀ pc', AX zm st bg oj n (lv + 1) (uP pc lv p) pc' → (∀ l, l < lv → cP zm oj pc' l = cP zm oj pc l) ∧ pc' lv = p := by
    intro pc' hA
    refine ⟨fun l hl => cP_co ?_, ?_⟩
    · rw [hA.2 l (by omega), uP_ne (by omega)]
    · rw [hA.2 lv (by omega), uP_at]
  unfold wp_X6_step
  rw [c1, h23, cj, q15]
  refine ⟨hv5, hv16, ?_⟩
  intro x1 ex1
  have ix1 : x1.toInt = pl zm oj lv p := by rw [ex1, a_add rfl i2 (by omega) (by omega)]; omega
  refine ⟨hv5, ?_⟩
  have beq := BO_eq (h := x1.toInt) se tm bb hpb pe hj (by omega) (by omega)
  refine v_X1_isBorne _ _ _ _ ht (by omega) (by omega) (by rw [cj, q17]; omega) (fun bo => ⟨fun _ => ⟨hv5, ?_⟩, fun q => absurd q (by decide)⟩) (fun bo => ⟨fun q => absurd rfl q, fun _ => ?_⟩)
  · rw [cj] at bo
    have bos := beq.mp bo
    rw [ix1] at bos
    -- the place joins those before it
    have eqc : ∀ l, l < lv → cP zm oj (uP pc lv p) l = cP zm oj pc l := fun l hl => cP_co (uP_ne (by omega))
    have fe0 : FeP zm st bg oj lv (cP zm oj (uP pc lv p)) := FeP_co eqc fe
    have il : (cP zm oj (uP pc lv p) lv).toInt = pl zm oj lv p := by rw [cP_i tm (by rw [uP_at]; exact hp), uP_at]
    have fe1 : FeP zm st bg oj (lv + 1) (cP zm oj (uP pc lv p)) := by
      intro k hk'
      by_cases e : k = lv
      · rw [e, il]
        refine (feas tm bb hh pb hr hlv ho fe0).mpr ⟨hof, fun l hl => ?_, ?_⟩
        · rw [cP_i tm (by rw [uP_ne (by omega)]; exact h24 l hl), uP_ne (by omega)]
          exact hcm l hl
        · rw [pG_co lv eqc]; exact bos
      · exact fe0 k (by omega)
    intro z5 e5
    have t5 : TX z5 := by rw [e5]; exact Ty_wR ht (show 0 ≤ b2.toInt ∧ b2.toInt ≤ 23 by omega)
    have s5 : Same [] [10, 12, 32] z z5 := Same.rf.r (by decide) e5
    have r32 : gF z5 32 = upd (gF z 32) lv (nI p) := by rw [e5, gF_wR, e2]
    have r23 : gF z5 23 lv = nI (oj lv) := by rw [s5.2 23 (by decide)]; exact h23
    have r17 : gF z5 17 = gF zm 9 := (s5.2 17 (by decide)).trans q17
    have r14 : gF z5 14 = gF zm 6 := (s5.2 14 (by decide)).trans q14
    have r18 : gF z5 18 = gF zm 10 := (s5.2 18 (by decide)).trans q18
    have r10 : gF z5 10 = gF z 10 := by rw [e5]; rfl
    have r12 : gF z5 12 = gF z 12 := by rw [e5]; rfl
    refine ⟨hv5, ?_⟩
    rw [r23]
    refine v_X1_drawL _ _ _ _ _ t5 (by omega) (by omega) (by rw [cj, r17]; omega) (fun z6 t6 s6 l6 ha hb => ?_)
    rw [cj, r10, r14, r17, r18] at ha
    rw [cj, r12, r17, r18] at hb
    have s6' : Same [] [10, 12, 32] z z6 := s5.tr s6 (by decide) (by decide)
    have l6' : z6.2.2 = z.2.2 := by rw [l6, e5]; rfl
    have w32 : gF z6 32 = upd (gF z 32) lv (nI p) := (s6.2 32 (by decide)).trans r32
    have hne : ∀ l, l < lv → oj l ≠ oj lv := fun l hl q => by have := hr l lv hl hlv; omega
    have hs0 : pS st oj lv (oj lv) = 0 := by rw [pS_out lv hne]; exact (ho lv hlv).2
    have pe6 : PE z6 (gI zm 12).toNatClampNeg (gF zm 6) (gF zm 9) (gF zm 10) (pS st oj (lv + 1)) (pG bg oj (cP zm oj (uP pc lv p)) (lv + 1)) := by
      show PE z6 _ _ _ _ (upd (pS st oj lv) (oj lv) 1) (upd (pG bg oj (cP zm oj (uP pc lv p)) lv) (oj lv) (cP zm oj (uP pc lv p) lv))
      rw [pG_co lv eqc]
      refine PE_mv (j := oj lv) (d := fun t => (1 : Int32) * dq (gF zm 9 (oj lv)).toInt (fun k => gF zm 10 (4 * oj lv + k)) x1.toInt t) pe (by omega) (by omega) (fun i => tm.2 6 i) (fun i hi => if_neg hi) (fun i hi => if_neg hi) (fun t htt => ?_) ha hb
      rw [drV_0 (by omega) hs0, drV_dq (by omega) htt (by rw [upd_at]; decide) (by rw [upd_at, il]; omega) f9, upd_at, il, ← ix1, one_mul', Int32.zero_add]
    refine hW z6 _ t6 s6' l6' w32 pe6 fe1 (fun z8 fr8 pw8 => ⟨hv5, ?_⟩)
    obtain ⟨t8, g2, g3, g4, g5, g6, g7, g8⟩ := fr8
    have y23 : gF z8 23 lv = nI (oj lv) := by rw [g2.2 23 (by decide), s6'.2 23 (by decide)]; exact h23
    have y17 : gF z8 17 = gF zm 9 := (g2.2 17 (by decide)).trans ((s6'.2 17 (by decide)).trans q17)
    have y14 : gF z8 14 = gF zm 6 := (g2.2 14 (by decide)).trans ((s6'.2 14 (by decide)).trans q14)
    have y18 : gF z8 18 = gF zm 10 := (g2.2 18 (by decide)).trans ((s6'.2 18 (by decide)).trans q18)
    rw [y23]
    refine v_X1_drawL _ _ _ _ _ t8 (by omega) (by omega) (by rw [cj, y17]; omega) (fun z10 t10 s10 l10 ha' hb' => ?_)
    rw [cj, y14, y17, y18] at ha'
    rw [cj, y17, y18] at hb'
    have sa : Same [] [10, 12, 30, 32, 33] z z10 := ((Same.tr (z1 := z) Same.rf s6' (by decide) (by decide)).tr g2 (by decide) (by decide)).tr s10 (by decide) (by decide)
    refine hk z10 ⟨t10, sa, ?_, fun x hx => ?_, fun x hx => ?_, fun l hl => ?_, fun h t h1 h2 => ?_, fun t h2 => ?_⟩ (PW_fr pw8 ?_ ?_ (fun k _ => ?_) ?_ ?_ ?_ (fun k _ => ?_))
    · rw [G28 l10 28, g3, G28 l6' 28]
    · rw [s10.2 30 (by decide), g4 x (by omega), s6'.2 30 (by decide)]
    · rw [G28 l10 31, g5 x (by omega), G28 l6' 31]
    · rw [s10.2 32 (by decide), g6 l (by omega), w32, upd_ne (by omega)]
    · rw [ha' h t h1 h2, g7 h t h1 h2, ha h t h1 h2]
      by_cases e : h = (gF zm 6 (oj lv)).toNatClampNeg
      · rw [if_pos e, if_pos e, dd0]
      · rw [if_neg e, if_neg e, Int32.add_zero, Int32.add_zero]
    · rw [hb' t h2, g8 t h2, hb t h2, dd0]
    · show z6.2.2.1 2215 = z.2.2.1 2215; rw [l6']
    · show z6.2.2.1 2214 = z.2.2.1 2214; rw [l6']
    · rw [s6'.2 33 (by decide)]
    · rw [s6'.1 2216 (by decide)]
    · show z10.2.2.1 2215 = z8.2.2.1 2215; rw [l10]
    · show z10.2.2.1 2214 = z8.2.2.1 2214; rw [l10]
    · rw [s10.2 33 (by decide)]
  · refine hk z (FRM_rf ht) (Or.inl ⟨rfl, rfl, fun _ _ => rfl, fun pc' hA => ?_⟩)
    refine absurd ?_ bo
    rw [cj]
    refine beq.mpr ?_
    obtain ⟨g1, g2⟩ := agr pc' hA
    have m := hA.1.2 lv hlv
    rw [cP_i tm (hA.1.1 lv hlv), g2] at m
    have f := ((feas tm bb hh pb hr hlv ho (FeP_le hA.1.2 (by omega))).mp m).2.2
    rw [pG_co lv g1] at f
    rw [ix1]
    exact f
