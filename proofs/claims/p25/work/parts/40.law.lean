def J9 (zx zm : St) : Prop := TX zx ∧ RX zx ∧ TM zm ∧ RM zm ∧ RN zm ∧ (gI zx 3701).toInt = (gI zm 36).toInt ∧ (gI zx 105).toInt = (gI zm 3).toInt ∧ (gI zx 106).toInt = (gI zm 7).toInt ∧ (gI zx 3909).toInt = (gI zm 43).toInt ∧ (gI zx 3403).toInt = (gI zm 22).toInt ∧ gF zx 2 = gF zm 1 ∧ gF zx 3 = gF zm 2 ∧ gF zx 4 = gF zm 3 ∧ gF zx 38 = gF zm 25 ∧ XJ zx zm ∧ SJ zx zm
theorem JK {zx zm zx1 zm1 : St} {I F I' F' : List Nat} (hj : J9 zx zm) (tx1 : TX zx1) (rx1 : RX zx1) (tm1 : TM zm1) (rm1 : RM zm1) (rn1 : RN zm1) (ox : Same I F zx zx1) (om : Same I' F' zm zm1) (xI : ∀ x ∈ [3701, 105, 106, 3909, 3403], x ∉ I) (xF : ∀ x ∈ [2, 3, 4, 38], x ∉ F) (mI : ∀ x ∈ [36, 3, 7, 43, 22], x ∉ I') (mF : ∀ x ∈ [1, 2, 3, 25], x ∉ F') (xj1 : XJ zx1 zm1) (sj1 : SJ zx1 zm1) : J9 zx1 zm1 := by
  obtain ⟨tx, rx, tm, rm, rn, q1, q2, q3, q4, q5, h1, h2, h3, h4, xj, sj⟩ := hj
  refine ⟨tx1, rx1, tm1, rm1, rn1, ?_, ?_, ?_, ?_, ?_, (ox.2 2 (xF _ (by decide))).trans (h1.trans (om.2 1 (mF _ (by decide))).symm), (ox.2 3 (xF _ (by decide))).trans (h2.trans (om.2 2 (mF _ (by decide))).symm), (ox.2 4 (xF _ (by decide))).trans (h3.trans (om.2 3 (mF _ (by decide))).symm), (ox.2 38 (xF _ (by decide))).trans (h4.trans (om.2 25 (mF _ (by decide))).symm), xj1, sj1⟩
  · rw [ox.1 3701 (xI _ (by decide)), om.1 36 (mI _ (by decide))]; exact q1
  · rw [ox.1 105 (xI _ (by decide)), om.1 3 (mI _ (by decide))]; exact q2
  · rw [ox.1 106 (xI _ (by decide)), om.1 7 (mI _ (by decide))]; exact q3
  · rw [ox.1 3909 (xI _ (by decide)), om.1 43 (mI _ (by decide))]; exact q4
  · rw [ox.1 3403 (xI _ (by decide)), om.1 22 (mI _ (by decide))]; exact q5
theorem JR {zx zm zx1 zm1 : St} (hj : J9 zx zm) (tx1 : TX zx1) (ox : Same [8] [] zx zx1) (tm1 : TM zm1) (om : Same [0, 1] [] zm zm1) : J9 zx1 zm1 := by
  obtain ⟨tx, rx, tm, rm, rn, q1, q2, q3, q4, q5, h1, h2, h3, h4, xj, sj⟩ := id hj
  exact JK hj tx1 (RX_same rx ox (by decide) (by decide) (by decide) (by decide) (by decide) (by decide)) tm1 (RM_same rm om (by decide) (by decide)) (RN_same rn om (by decide) (by decide)) ox om (by decide) (by decide) (by decide) (by decide) (XJ_m (XJ_x xj ox (by decide) (by decide)) om (by decide) (by decide)) (SJ_mv sj ox om (by decide) (by decide) (by decide) (by decide))
theorem JP {zx zm zx1 zm1 : St} {st bg : Nat → Int32} {I F : List Nat} (hj : J9 zx zm) (tx1 : TX zx1) (rx1 : RX zx1) (ox : Same I F zx zx1) (xI : ∀ x ∈ [3701, 105, 106, 3909, 3403, 3402, 3915], x ∉ I) (xF : ∀ x ∈ [2, 3, 4, 38, 35, 36, 40, 41, 42, 43, 44, 45, 46, 50, 51], x ∉ F) (cp1 : CP zx1 zm st bg) (cm1 : CM zm1 zm st bg) (hn : ∀ o : Nat, (o : Int) < (gI zm 12).toInt → st o = 1 → (gI zm 2).toInt ≤ (bg o).toInt) : J9 zx1 zm1 := by
  obtain ⟨tx, rx, tm, rm, rn, q1, q2, q3, q4, q5, h1, h2, h3, h4, xj, sj⟩ := id hj
  exact JK hj tx1 rx1 cm1.1 (RM_same rm cm1.2.2.1 (by decide) (by decide)) (RN_same rn cm1.2.2.1 (by decide) (by decide)) ox cm1.2.2.1 (fun x hx => xI x (by revert x; decide)) (fun x hx => xF x (by revert x; decide)) (by decide) (by decide) (XJ_plan xj ox (xI _ (by decide)) (fun x hx => xF x (by revert x; decide)) cp1 cm1 hn) (SJ_mv sj ox cm1.2.2.1 (fun x hx => xI x (by revert x; decide)) (fun x hx => xF x (by revert x; decide)) (by decide) (by decide))
theorem lw_price {zx zm : St} (hj : J9 zx zm) : (∀ (v0 v1 v2 : Int32), wp_X8_price v0 v1 v2 zx (fun r1 zx1 => (wp_X9_price v0 v1 v2 zm (fun r2 zm1 => J9 zx1 zm1)))) := by
  obtain ⟨tx, rx, tm, rm, rn, q1, q2, q3, q4, q5, h1, h2, h3, h4, xj, sj⟩ := id hj
  have e3 : gI zx 105 = gI zm 3 := toI_inj q2
  intro v0 v1 v2
  refine v_X8_price v0 v1 v2 zx _ tx (fun ng r1 zx1 tx1 ox => ?_) (fun g r1 zx1 tx1 ox n1 a2 a3 a4 u1 u2 => ?_)
  · exact v_X9_price v0 v1 v2 zm _ tm (fun _ r2 zm1 tm1 om => JR hj tx1 ox tm1 om) (fun g => absurd (by rw [e3]; exact g) ng)
  · refine v_X9_price v0 v1 v2 zm _ tm (fun ng => absurd (by rw [← e3]; exact g) ng) (fun g' r2 zm1 tm1 om m3 z21 m1 m2 m3' => ?_)
    have x0 := ox.fi 3701 (by decide)
    have y0 := om.fi 36 (by decide)
    have x1 := ox.fi 106 (by decide)
    have y1 := om.fi 7 (by decide)
    have x2 := ox.fi 3909 (by decide)
    have y2 := om.fi 43 (by decide)
    have x3 := ox.fi 3403 (by decide)
    have y3 := om.fi 22 (by decide)
    exact ⟨tx1, RX_same rx ox (by decide) (by decide) (by decide) (by decide) (by decide) (by decide), tm1, RM_same rm om (by decide) (by decide), RN_same rn om (by decide) (by decide), by omega, by omega, by omega, by omega, by omega, by rw [a2, m1, h1, e3], by rw [a3, m2, h2, e3], by rw [a4, m3', h3, e3], (ox.2 38 (by decide)).trans (h4.trans (om.2 25 (by decide)).symm), XJ_price xj tm ox om g' m3 z21 m1 m2 m3' u1 u2, SJ_mv sj ox om (by decide) (by decide) (by decide) (by decide)⟩
theorem lw_plain {zx zm : St} (hj : J9 zx zm) : (∀ (v0 : Int32), wp_X8_plain v0 zx (fun r1 zx1 => (wp_X9_plain v0 zm (fun r2 zm1 => J9 zx1 zm1)))) := by
  obtain ⟨tx, rx, tm, rm, rn, q1, q2, q3, q4, q5, h1, h2, h3, h4, xj, sj⟩ := id hj
  have e3 : gI zx 105 = gI zm 3 := toI_inj q2
  intro v0
  refine v_X8_plain v0 zx _ tx (fun ng r1 zx1 tx1 ox => ?_) (fun g r1 zx1 tx1 ox n1 hp => ?_)
  · exact v_X9_plain v0 zm _ tm (fun _ r2 zm1 tm1 om => JR hj tx1 ox tm1 om) (fun g => absurd g ng)
  · refine v_X9_plain v0 zm _ tm (fun ng => absurd g ng) (fun _ r2 zm1 tm1 om m7 z21 => ?_)
    have x0 := ox.fi 3701 (by decide)
    have y0 := om.fi 36 (by decide)
    have x1 := ox.fi 105 (by decide)
    have y1 := om.fi 3 (by decide)
    have x2 := ox.fi 3909 (by decide)
    have y2 := om.fi 43 (by decide)
    have x3 := ox.fi 3403 (by decide)
    have y3 := om.fi 22 (by decide)
    exact ⟨tx1, RX_same rx ox (by decide) (by decide) (by decide) (by decide) (by decide) (by decide), tm1, RM_same rm om (by decide) (by decide), RN_same rn om (by decide) (by decide), by omega, by omega, by rw [n1, m7], by omega, by omega, (ox.2 2 (by decide)).trans (h1.trans (om.2 1 (by decide)).symm), (ox.2 3 (by decide)).trans (h2.trans (om.2 2 (by decide)).symm), (ox.2 4 (by decide)).trans (h3.trans (om.2 3 (by decide)).symm), (ox.2 38 (by decide)).trans (h4.trans (om.2 25 (by decide)).symm), XJ_plain xj ox om g m7 z21 h1 h2 h3 e3 hp, SJ_mv sj ox om (by decide) (by decide) (by decide) (by decide)⟩
theorem lw_at {zx zm : St} (hj : J9 zx zm) : (∀ (v0 v1 : Int32), wp_X8_at v0 v1 zx (fun r1 => (wp_X9_at v0 v1 zm (fun r2 zm1 => J9 zx zm1)))) := by
  obtain ⟨tx, rx, tm, rm, rn, hq0, hq1, hq2, hq3, hq4, hf0, hf1, hf2, hf3, xj, sj⟩ := hj
  intro v0 v1
  refine s_X8_at v0 v1 zx _ tx (fun r1 px => ?_)
  refine s_X9_at v0 v1 zm _ tm  (fun r2 zm1 tm1 om  pm => ?_)
  have qm0 := om.fi 36 (by decide)
  have qm1 := om.fi 3 (by decide)
  have qm2 := om.fi 7 (by decide)
  have qm3 := om.fi 43 (by decide)
  have qm4 := om.fi 22 (by decide)
  exact ⟨tx, rx, tm1, RM_same rm om (by decide) (by decide), RN_same rn om (by decide) (by decide), by omega, by omega, by omega, by omega, by omega, (hf0.trans (om.2 1 (by decide)).symm), (hf1.trans (om.2 2 (by decide)).symm), (hf2.trans (om.2 3 (by decide)).symm), (hf3.trans (om.2 25 (by decide)).symm), XJ_m xj om (by decide) (by decide), SJ_mv sj (Same.rf (I := []) (F := [])) om (by decide) (by decide) (by decide) (by decide)⟩
theorem lw_home {zx zm : St} (hj : J9 zx zm) : (∀ (v0 : Int32), wp_X8_home v0 zx (fun r1 zx1 => (wp_X9_home v0 zm (fun r2 zm1 => J9 zx1 zm1)))) := by
  obtain ⟨tx, rx, tm, rm, rn, q1, q2, q3, q4, q5, h1, h2, h3, h4, xj, sj⟩ := id hj
  have e8 : gI zx 705 = gI zm 8 := xj.2.2.2.2.1.1.2.1
  intro v0
  refine v_X8_home v0 zx _ tx (fun ng r1 zx1 tx1 ox => ?_) (fun g r1 zx1 tx1 ox n1 a8 => ?_)
  · exact v_X9_home v0 zm _ tm (fun _ r2 zm1 tm1 om => JR hj tx1 ox tm1 om) (fun g => absurd (by rw [e8]; exact g) ng)
  · refine v_X9_home v0 zm _ tm (fun ng => absurd (by rw [← e8]; exact g) ng) (fun _ r2 zm1 tm1 om m1 a4 => ?_)
    exact JK hj tx1 (RX_same rx ox (by decide) (by decide) (by decide) (by decide) (by decide) (by decide)) tm1 (RM_same rm om (by decide) (by decide)) (RN_same rn om (by decide) (by decide)) ox om (by decide) (by decide) (by decide) (by decide) (XJ_home xj tm ox om n1 m1 a8 a4 (by rw [← e8]; exact g.2)) (SJ_home sj ox om a4 g.1)
theorem lw_base {zx zm : St} (hj : J9 zx zm) : (∀ (v0 v1 v2 : Int32), wp_X8_base v0 v1 v2 zx (fun r1 zx1 => (wp_X9_base v0 v1 v2 zm (fun r2 zm1 => J9 zx1 zm1)))) := by
  obtain ⟨tx, rx, tm, rm, rn, q1, q2, q3, q4, q5, h1, h2, h3, h4, xj, sj⟩ := id hj
  have e8 : gI zx 705 = gI zm 8 := xj.2.2.2.2.1.1.2.1
  intro v0 v1 v2
  refine v_X8_base v0 v1 v2 zx _ tx (fun ng r1 zx1 tx1 ox => ?_) (fun g r1 zx1 tx1 ox a9 a11 => ?_)
  · exact v_X9_base v0 v1 v2 zm _ tm (fun _ r2 zm1 tm1 om => JR hj tx1 ox tm1 om) (fun g => absurd (by rw [e8]; exact g) ng)
  · refine v_X9_base v0 v1 v2 zm _ tm (fun ng => absurd (by rw [← e8]; exact g) ng) (fun g' r2 zm1 tm1 om a5 => ?_)
    exact JK hj tx1 (RX_same rx ox (by decide) (by decide) (by decide) (by decide) (by decide) (by decide)) tm1 (RM_same rm om (by decide) (by decide)) (RN_same rn om (by decide) (by decide)) ox om (by decide) (by decide) (by decide) (by decide) (XJ_base xj tm ox om g' a9 a11 a5) (SJ_mv sj ox om (by decide) (by decide) (by decide) (by decide))
theorem lw_cable {zx zm : St} (hj : J9 zx zm) : (∀ (v0 : Int32), wp_X8_cable v0 zx (fun r1 zx1 => (wp_X9_cable v0 zm (fun r2 zm1 => J9 zx1 zm1)))) := by
  obtain ⟨tx, rx, tm, rm, rn, q1, q2, q3, q4, q5, h1, h2, h3, h4, xj, sj⟩ := id hj
  intro v0
  refine v_X8_cable v0 zx _ tx (fun ng r1 zx1 tx1 ox => ?_) (fun g r1 zx1 tx1 ox n1 => ?_)
  · exact v_X9_cable v0 zm _ tm (fun _ r2 zm1 tm1 om => JR hj tx1 ox tm1 om) (fun g => absurd g ng)
  · refine v_X9_cable v0 zm _ tm (fun ng => absurd g ng) (fun _ r2 zm1 tm1 om m1 => ?_)
    exact JK hj tx1 (RX_same rx ox (by decide) (by decide) (by decide) (by decide) (by decide) (by decide)) tm1 (RM_same rm om (by decide) (by decide)) (RN_same rn om (by decide) (by decide)) ox om (by decide) (by decide) (by decide) (by decide) (XJ_cable xj ox om n1 m1) (SJ_mv sj ox om (by decide) (by decide) (by decide) (by decide))
theorem lw_job {zx zm : St} (hj : J9 zx zm) : (∀ (v0 v1 v2 v3 v4 v5 v6 v7 : Int32), wp_X8_job v0 v1 v2 v3 v4 v5 v6 v7 zx (fun r1 zx1 => (wp_X9_job v0 v1 v2 v3 v4 v5 v6 v7 zm (fun r2 zm1 => J9 zx1 zm1)))) := by
  obtain ⟨tx, rx, tm, rm, rn, q1, q2, q3, q4, q5, h1, h2, h3, h4, xj, sj⟩ := id hj
  have e8 : gI zx 705 = gI zm 8 := xj.2.2.2.2.1.1.2.1
  have e12 : gI zx 1308 = gI zm 12 := xj.2.2.2.2.1.1.1
  intro v0 v1 v2 v3 v4 v5 v6 v7
  refine v_X8_job v0 v1 v2 v3 v4 v5 v6 v7 zx _ tx rx (fun ng r1 zx1 tx1 ox => ?_) (fun g r1 zx1 tx1 rx1 ox n1 a14 a15 a16 a17 a18 a19 a20 => ?_)
  · exact v_X9_job v0 v1 v2 v3 v4 v5 v6 v7 zm _ tm (fun _ r2 zm1 tm1 om => JR hj tx1 ox tm1 om) (fun g => absurd (by rw [e8, e12]; exact g) ng)
  · refine v_X9_job v0 v1 v2 v3 v4 v5 v6 v7 zm _ tm (fun ng => absurd (by rw [← e8, ← e12]; exact g) ng) (fun g' r2 zm1 tm1 om m12 a6 a7 a8 a9 a10 a11 a12 => ?_)
    have rm1 : RM zm1 := by
      intro i
      rw [a7, a8]
      by_cases e : i = (gI zm 12).toNatClampNeg
      · rw [e, upd_at, upd_at]
        have := g'.1.2.2.2.1
        omega
      · rw [upd_ne e, upd_ne e]; exact rm i
    exact JK hj tx1 rx1 tm1 rm1 (RN_same rn om (by decide) (by decide)) ox om (by decide) (by decide) (by decide) (by decide) (XJ_job xj tm ox om g' n1 a14 a15 a16 a17 a18 a19 a20 m12 a6 a7 a8 a9 a10 a11 a12) (SJ_mv sj ox om (by decide) (by decide) (by decide) (by decide))
theorem lw_of {zx zm : St} (hj : J9 zx zm) : (∀ (v0 v1 : Int32), wp_X8_of v0 v1 zx (fun r1 => (wp_X9_of v0 v1 zm (fun r2 zm1 => J9 zx zm1)))) := by
  obtain ⟨tx, rx, tm, rm, rn, hq0, hq1, hq2, hq3, hq4, hf0, hf1, hf2, hf3, xj, sj⟩ := hj
  intro v0 v1
  refine s_X8_of v0 v1 zx _ tx (fun r1 px => ?_)
  refine s_X9_of v0 v1 zm _ tm  (fun r2 zm1 tm1 om  pm => ?_)
  have qm0 := om.fi 36 (by decide)
  have qm1 := om.fi 3 (by decide)
  have qm2 := om.fi 7 (by decide)
  have qm3 := om.fi 43 (by decide)
  have qm4 := om.fi 22 (by decide)
  exact ⟨tx, rx, tm1, RM_same rm om (by decide) (by decide), RN_same rn om (by decide) (by decide), by omega, by omega, by omega, by omega, by omega, (hf0.trans (om.2 1 (by decide)).symm), (hf1.trans (om.2 2 (by decide)).symm), (hf2.trans (om.2 3 (by decide)).symm), (hf3.trans (om.2 25 (by decide)).symm), XJ_m xj om (by decide) (by decide), SJ_mv sj (Same.rf (I := []) (F := [])) om (by decide) (by decide) (by decide) (by decide)⟩
theorem lw_may {zx zm : St} (hj : J9 zx zm) : (∀ (v0 v1 : Int32), wp_X8_may v0 v1 zx (fun r1 zx1 => (wp_X9_may v0 v1 zm (fun r2 zm1 => J9 zx1 zm1)))) := by
  obtain ⟨tx, rx, tm, rm, rn, q1, q2, q3, q4, q5, h1, h2, h3, h4, xj, sj⟩ := id hj
  have h3' := XJ_h3 tx xj
  obtain ⟨fr, de, rq, ⟨bb, wnd, pl, pn, bz⟩, cp⟩ := id xj
  have cm := CM_self tm fr pl
  intro v0 v1
  refine v_X8_may v0 v1 zx zm _ (gF zm 11) (gF zm 12) tx rx tm cp h3' rq.2.2 (fun ng => ?_) (fun g r1 zx1 tx1 rx1 ox cp1 hr1 => ?_)
  · refine v_X9_may v0 v1 zm _ (gF zm 11) (gF zm 12) cm (fun _ zm1 cm1 => ?_) (fun g => absurd g ng)
    exact JP hj tx rx (Same.rf (I := []) (F := [])) (by decide) (by decide) cp cm1 pn
  · refine v_X9_may v0 v1 zm _ (gF zm 11) (gF zm 12) cm (fun ng => absurd g ng) (fun _ r2 zm1 cm1 hr2 => ?_)
    exact JP hj tx1 rx1 ox (by decide) (by decide) cp1 cm1 pn
theorem lw_put {zx zm : St} (hj : J9 zx zm) : (∀ (v0 v1 : Int32), wp_X8_put v0 v1 zx (fun r1 zx1 => (wp_X9_put v0 v1 zm (fun r2 zm1 => J9 zx1 zm1)))) := by
  obtain ⟨tx, rx, tm, rm, rn, q1, q2, q3, q4, q5, h1, h2, h3, h4, xj, sj⟩ := id hj
  have h3' := XJ_h3 tx xj
  obtain ⟨fr, de, rq, ⟨bb, wnd, pl, pn, bz⟩, cp⟩ := id xj
  have cm := CM_self tm fr pl
  intro v0 v1
  refine v_X8_put v0 v1 zx zm _ (gF zm 11) (gF zm 12) tx rx tm cp h3' rq.2.2 (fun ng r1 zx1 tx1 rx1 ox cp1 hr1 => ?_) (fun g r1 zx1 tx1 rx1 ox cp1 hr1 => ?_)
  · refine v_X9_put v0 v1 zm _ (gF zm 11) (gF zm 12) cm (fun _ r2 zm1 cm1 hr2 => ?_) (fun g => absurd g ng)
    exact JP hj tx1 rx1 ox (by decide) (by decide) cp1 cm1 pn
  · refine v_X9_put v0 v1 zm _ (gF zm 11) (gF zm 12) cm (fun ng => absurd g ng) (fun _ r2 zm1 cm1 hr2 => ?_)
    have hn : ∀ o : Nat, (o : Int) < (gI zm 12).toInt → upd (gF zm 11) v0.toNatClampNeg 1 o = 1 → (gI zm 2).toInt ≤ (upd (gF zm 12) v0.toNatClampNeg v1 o).toInt := by
      intro o ho h
      by_cases e : o = v0.toNatClampNeg
      · rw [e, upd_at]; exact g.2.2.1
      · rw [upd_ne e] at h
        rw [upd_ne e]; exact pn o ho h
    exact JP hj tx1 rx1 ox (by decide) (by decide) cp1 cm1 hn
theorem lw_whole {zx zm : St} (hj : J9 zx zm) : (wp_X8_whole zx (fun r1 zx1 => (wp_X9_whole zm (fun r2 zm1 => J9 zx1 zm1)))) := by
  obtain ⟨tx, rx, tm, rm, rn, q1, q2, q3, q4, q5, h1, h2, h3, h4, xj, sj⟩ := id hj
  have h3' := XJ_h3 tx xj
  obtain ⟨fr, de, rq, ⟨bb, wnd, pl, pn, bz⟩, cp⟩ := id xj
  have cm := CM_self tm fr pl
  refine v_X8_whole zx zm _ (gF zm 11) (gF zm 12) tx rx cp h3' tm rm bb pl (fun r1 zx1 st1 bg1 tx1 rx1 ox cp1 w1 => ?_)
  refine v_X9_whole zm _ (gF zm 11) (gF zm 12) tm rm cm h3' wnd (XJ_ct tm xj) (fun r2 zm1 st2 bg2 cm1 w2 => ?_)
  obtain ⟨er, es, eb⟩ := WO9_uniq w1 w2
  have hn := WO9_now w1 pn
  rw [← es, ← eb] at cm1
  exact JP hj tx1 rx1 ox (by decide) (by decide) cp1 cm1 hn
theorem lw_each {zx zm : St} (hj : J9 zx zm) : (wp_X8_each zx (fun r1 zx1 => (wp_X9_each zm (fun r2 zm1 => J9 zx1 zm1)))) := by
  obtain ⟨tx, rx, tm, rm, rn, q1, q2, q3, q4, q5, h1, h2, h3, h4, xj, sj⟩ := id hj
  have h3' := XJ_h3 tx xj
  obtain ⟨fr, de, rq, ⟨bb, wnd, pl, pn, bz⟩, cp⟩ := id xj
  have cm := CM_self tm fr pl
  refine v_X8_each zx zm _ (gF zm 11) (gF zm 12) tx rx tm bb.2 cp (fun r1 zx1 tx1 rx1 ox cp1 hr1 => ?_)
  refine v_X9_each zm _ (gF zm 11) (gF zm 12) tm (XJ_ct tm xj) cm h3' (fun r2 zm1 cm1 hr2 => ?_)
  exact JP hj tx1 rx1 ox (by decide) (by decide) cp1 cm1 (fun o _ h => eP_now tm _ o h)
theorem lw_feed {zx zm : St} (hj : J9 zx zm) : (∀ (v0 v1 v2 v3 v4 : Int32), wp_X8_feed v0 v1 v2 v3 v4 zx (fun r1 zx1 => (wp_X9_feed v0 v1 v2 v3 v4 zm (fun r2 zm1 => J9 zx1 zm1)))) := by
  obtain ⟨tx, rx, tm, rm, rn, q1, q2, q3, q4, q5, h1, h2, h3, h4, xj, sj⟩ := id hj
  intro v0 v1 v2 v3 v4
  have f : 0 ≤ (gI zx 3701).toInt ∧ (gI zx 3701).toInt ≤ 300 := tx.1 3701
  have cn := clampN f.1
  refine v_X8_feed _ _ _ _ _ zx _ tx _ (gI zx 3701).toNatClampNeg rfl (by omega) (fun hn r1 zx1 tx1 ox nx1 fx => ?_) (fun hn r1 => ?_)
  · refine v_X9_feed _ _ _ _ _ zm _ tm _ (gI zx 3701).toNatClampNeg h4.symm (by omega) (fun _ r2 zm1 tm1 om nm1 fm => ?_) (fun q => absurd hn q)
    have x0 := ox.fi 105 (by decide)
    have y0 := om.fi 3 (by decide)
    have x1 := ox.fi 106 (by decide)
    have y1 := om.fi 7 (by decide)
    have x2 := ox.fi 3909 (by decide)
    have y2 := om.fi 43 (by decide)
    have x3 := ox.fi 3403 (by decide)
    have y3 := om.fi 22 (by decide)
    exact ⟨tx1, RX_same rx ox (by decide) (by decide) (by decide) (by decide) (by decide) (by decide), tm1, RM_same rm om (by decide) (by decide), RN_same rn om (by decide) (by decide), by omega, by omega, by omega, by omega, by omega, (ox.2 2 (by decide)).trans (h1.trans (om.2 1 (by decide)).symm), (ox.2 3 (by decide)).trans (h2.trans (om.2 2 (by decide)).symm), (ox.2 4 (by decide)).trans (h3.trans (om.2 3 (by decide)).symm), fx.trans fm.symm, XJ_m (XJ_x xj ox (by decide) (by decide)) om (by decide) (by decide), SJ_mv sj ox om (by decide) (by decide) (by decide) (by decide)⟩
  · refine v_X9_feed _ _ _ _ _ zm _ tm _ (gI zx 3701).toNatClampNeg h4.symm (by omega) (fun q => absurd q hn) (fun _ r2 zm1 tm1 om => ?_)
    exact JK hj tx rx tm1 (RM_same rm om (by decide) (by decide)) (RN_same rn om (by decide) (by decide)) (Same.rf (I := []) (F := [])) om (by decide) (by decide) (by decide) (by decide) (XJ_m xj om (by decide) (by decide)) (SJ_mv sj (Same.rf (I := []) (F := [])) om (by decide) (by decide) (by decide) (by decide))
theorem lw_end {zx zm : St} (hj : J9 zx zm) : (∀ (v0 : Int32), wp_X8_end v0 zx (fun r1 zx1 => (wp_X9_end v0 zm (fun r2 zm1 => J9 zx1 zm1)))) := by
  obtain ⟨tx, rx, tm, rm, rn, hq0, hq1, hq2, hq3, hq4, hf0, hf1, hf2, hf3, xj, sj⟩ := hj
  intro v0
  refine s_X8_end v0 zx _ tx (fun r1 zx1 tx1 ox px => ?_)
  refine s_X9_end v0 zm _ tm  (fun r2 zm1 tm1 om  pm => ?_)
  have qx1 := ox.fi 105 (by decide)
  have qm1 := om.fi 3 (by decide)
  have qx2 := ox.fi 106 (by decide)
  have qm2 := om.fi 7 (by decide)
  have qx3 := ox.fi 3909 (by decide)
  have qm3 := om.fi 43 (by decide)
  have qx4 := ox.fi 3403 (by decide)
  have qm4 := om.fi 22 (by decide)
  exact ⟨tx1, RX_same rx ox (by decide) (by decide) (by decide) (by decide) (by decide) (by decide), tm1, RM_same rm om (by decide) (by decide), RN_same rn om (by decide) (by decide), by omega, by omega, by omega, by omega, by omega, (ox.2 2 (by decide)).trans (hf0.trans (om.2 1 (by decide)).symm), (ox.2 3 (by decide)).trans (hf1.trans (om.2 2 (by decide)).symm), (ox.2 4 (by decide)).trans (hf2.trans (om.2 3 (by decide)).symm), (ox.2 38 (by decide)).trans (hf3.trans (om.2 25 (by decide)).symm), XJ_m (XJ_x xj ox (by decide) (by decide)) om (by decide) (by decide), SJ_mv sj ox om (by decide) (by decide) (by decide) (by decide)⟩
theorem lw_rules {zx zm : St} (hj : J9 zx zm) : (∀ (a : Nat → Nat) , wp_X8_rules a zx (fun r1 u1 => (wp_X9_rules zm (fun r2 zm1 => (u1.1 0 = a 0 ∧ J9 u1.2 zm1))))) := by
  obtain ⟨tx, rx, tm, rm, rn, q1, q2, q3, q4, q5, h1, h2, h3, h4, xj, sj⟩ := id hj
  intro a
  have f : 0 ≤ (gI zx 3701).toInt ∧ (gI zx 3701).toInt ≤ 300 := tx.1 3701
  have cn := clampN f.1
  refine w_X8_rules a zx _ tx _ (gI zx 3701).toNatClampNeg rfl (by omega) (fun r1 u1 tx1 ox h0 px o1 => ?_)
  refine w_X9_rules zm _ tm _ (gI zx 3701).toNatClampNeg h4.symm (by omega) (fun r2 zm1 tm1 om pm o2 => ?_)
  have x0 := ox.fi 105 (by decide)
  have y0 := om.fi 3 (by decide)
  have x1 := ox.fi 106 (by decide)
  have y1 := om.fi 7 (by decide)
  have x2 := ox.fi 3909 (by decide)
  have y2 := om.fi 43 (by decide)
  have main : (gI u1.2 3403).toInt = (gI zm1 22).toInt ∧ DEq u1.2 zm1 ∧ RQ u1.2 zm1 := by
    rcases hq : pA (gF zx 38) (gI zx 3701).toNatClampNeg with w | cs
    · rw [hq] at o1 o2
      obtain ⟨_, _, a1, a2, a3, a4⟩ := o1
      obtain ⟨_, _, b1, b2, b3, b4, b5⟩ := o2
      exact ⟨by rw [a2, b1]; exact q5, DEq_m (DEq_x xj.2.1 a1) b1 b2 b3, RQ_m (RQ_x xj.2.2.1 a3 a4) b1 b2 b3 b4 b5⟩
    · rw [hq] at o1 o2
      obtain ⟨_, _, a1, a2⟩ := o1
      obtain ⟨_, _, b1, b2⟩ := o2
      exact ⟨a1.trans b1.symm, RQ_of a2 b1 b2⟩
  exact ⟨h0, tx1, RX_same rx ox (by decide) (by decide) (by decide) (by decide) (by decide) (by decide), tm1, RM_same rm om (by decide) (by decide), RN_same rn om (by decide) (by decide), by omega, by omega, by omega, by omega, main.1, (ox.2 2 (by decide)).trans (h1.trans (om.2 1 (by decide)).symm), (ox.2 3 (by decide)).trans (h2.trans (om.2 2 (by decide)).symm), (ox.2 4 (by decide)).trans (h3.trans (om.2 3 (by decide)).symm), (ox.2 38 (by decide)).trans (h4.trans (om.2 25 (by decide)).symm), XJ_rules xj ox om (by decide) (by decide) (by decide) (by decide) main.2.1 main.2.2, SJ_mv sj ox om (by decide) (by decide) (by decide) (by decide)⟩
theorem lw_fault {zx zm : St} (hj : J9 zx zm) : (wp_X8_fault zx (fun r1 => (wp_X9_fault zm (fun r2 zm1 => J9 zx zm1)))) := by
  obtain ⟨tx, rx, tm, rm, rn, hq0, hq1, hq2, hq3, hq4, hf0, hf1, hf2, hf3, xj, sj⟩ := hj
  refine s_X8_fault  zx _ tx (fun r1 px => ?_)
  refine s_X9_fault  zm _ tm  (fun r2 zm1 tm1 om  pm => ?_)
  have qm0 := om.fi 36 (by decide)
  have qm1 := om.fi 3 (by decide)
  have qm2 := om.fi 7 (by decide)
  have qm3 := om.fi 43 (by decide)
  have qm4 := om.fi 22 (by decide)
  exact ⟨tx, rx, tm1, RM_same rm om (by decide) (by decide), RN_same rn om (by decide) (by decide), by omega, by omega, by omega, by omega, by omega, (hf0.trans (om.2 1 (by decide)).symm), (hf1.trans (om.2 2 (by decide)).symm), (hf2.trans (om.2 3 (by decide)).symm), (hf3.trans (om.2 25 (by decide)).symm), XJ_m xj om (by decide) (by decide), SJ_mv sj (Same.rf (I := []) (F := [])) om (by decide) (by decide) (by decide) (by decide)⟩
theorem lw_go {zx zm : St} (hj : J9 zx zm) : (∀ (v0 : Int32), wp_X8_go v0 zx (fun r1 zx1 => (wp_X9_go v0 zm (fun r2 zm1 => J9 zx1 zm1)))) := by
  obtain ⟨tx, rx, tm, rm, rn, q1, q2, q3, q4, q5, h1, h2, h3, h4, xj, sj⟩ := id hj
  have e2 : gI zx 2104 = gI zm 2 := xj.2.2.2.2.1.1.2.2.2
  have e3 : gI zx 105 = gI zm 3 := toI_inj q2
  have e7 : gI zx 106 = gI zm 7 := toI_inj q3
  intro v0
  refine v_X8_go v0 zx _ tx rx (fun ng r1 zx1 tx1 ox => ?_) (fun g r1 zx1 tx1 rx1 ox n1 a19 hp => ?_)
  · exact v_X9_go v0 zm _ tm xj.2.2.2.1.2.2.2.1 (fun _ r2 zm1 tm1 om => JR hj tx1 ox tm1 om) (fun g => absurd (by rw [e2]; exact g) ng)
  · refine v_X9_go v0 zm _ tm xj.2.2.2.1.2.2.2.1 (fun ng => absurd (by rw [← e2]; exact g) ng) (fun g' r2 zm1 tm1 om m2 z21 a11 => ?_)
    exact JK hj tx1 rx1 tm1 (RM_same rm om (by decide) (by decide)) (RN_same rn om (by decide) (by decide)) ox om (by decide) (by decide) (by decide) (by decide) (XJ_go xj tm ox om g' n1 m2 z21 h1 h2 h3 e3 e7 a19 a11 hp) (SJ_mv sj ox om (by decide) (by decide) (by decide) (by decide))
theorem lw_load {zx zm : St} (hj : J9 zx zm) : (∀ (v0 v1 : Int32), wp_X8_load v0 v1 zx (fun r1 => (wp_X9_load v0 v1 zm (fun r2 zm1 => J9 zx zm1)))) := by
  obtain ⟨tx, rx, tm, rm, rn, hq0, hq1, hq2, hq3, hq4, hf0, hf1, hf2, hf3, xj, sj⟩ := hj
  intro v0 v1
  refine s_X8_load v0 v1 zx _ tx (fun r1 px => ?_)
  refine s_X9_load v0 v1 zm _ tm  (fun r2 zm1 tm1 om  pm => ?_)
  have qm0 := om.fi 36 (by decide)
  have qm1 := om.fi 3 (by decide)
  have qm2 := om.fi 7 (by decide)
  have qm3 := om.fi 43 (by decide)
  have qm4 := om.fi 22 (by decide)
  exact ⟨tx, rx, tm1, RM_same rm om (by decide) (by decide), RN_same rn om (by decide) (by decide), by omega, by omega, by omega, by omega, by omega, (hf0.trans (om.2 1 (by decide)).symm), (hf1.trans (om.2 2 (by decide)).symm), (hf2.trans (om.2 3 (by decide)).symm), (hf3.trans (om.2 25 (by decide)).symm), XJ_m xj om (by decide) (by decide), SJ_mv sj (Same.rf (I := []) (F := [])) om (by decide) (by decide) (by decide) (by decide)⟩
theorem lw_cost {zx zm : St} (hj : J9 zx zm) : (∀ (v0 v1 : Int32), wp_X8_cost v0 v1 zx (fun r1 zx1 => (wp_X9_cost v0 v1 zm (fun r2 zm1 => J9 zx1 zm1)))) := by
  obtain ⟨tx, rx, tm, rm, rn, hq0, hq1, hq2, hq3, hq4, hf0, hf1, hf2, hf3, xj, sj⟩ := hj
  intro v0 v1
  refine s_X8_cost v0 v1 zx _ tx rx (fun r1 zx1 tx1 ox rx1 px => ?_)
  refine s_X9_cost v0 v1 zm _ tm  (fun r2 zm1 tm1 om  pm => ?_)
  have qx0 := ox.fi 3701 (by decide)
  have qm0 := om.fi 36 (by decide)
  have qx1 := ox.fi 105 (by decide)
  have qm1 := om.fi 3 (by decide)
  have qx2 := ox.fi 106 (by decide)
  have qm2 := om.fi 7 (by decide)
  have qx3 := ox.fi 3909 (by decide)
  have qm3 := om.fi 43 (by decide)
  have qx4 := ox.fi 3403 (by decide)
  have qm4 := om.fi 22 (by decide)
  exact ⟨tx1, rx1, tm1, RM_same rm om (by decide) (by decide), RN_same rn om (by decide) (by decide), by omega, by omega, by omega, by omega, by omega, (ox.2 2 (by decide)).trans (hf0.trans (om.2 1 (by decide)).symm), (ox.2 3 (by decide)).trans (hf1.trans (om.2 2 (by decide)).symm), (ox.2 4 (by decide)).trans (hf2.trans (om.2 3 (by decide)).symm), (ox.2 38 (by decide)).trans (hf3.trans (om.2 25 (by decide)).symm), XJ_m (XJ_x xj ox (by decide) (by decide)) om (by decide) (by decide), SJ_mv sj ox om (by decide) (by decide) (by decide) (by decide)⟩
theorem lw_saved {zx zm : St} (hj : J9 zx zm) : (∀ (v0 : Int32), wp_X8_saved v0 zx (fun r1 zx1 => (wp_X9_saved v0 zm (fun r2 zm1 => J9 zx1 zm1)))) := by
  obtain ⟨tx, rx, tm, rm, rn, hq0, hq1, hq2, hq3, hq4, hf0, hf1, hf2, hf3, xj, sj⟩ := hj
  intro v0
  refine s_X8_saved v0 zx _ tx rx (fun r1 zx1 tx1 ox rx1 px => ?_)
  refine s_X9_saved v0 zm _ tm  (fun r2 zm1 tm1 om  pm => ?_)
  have qx0 := ox.fi 3701 (by decide)
  have qm0 := om.fi 36 (by decide)
  have qx1 := ox.fi 105 (by decide)
  have qm1 := om.fi 3 (by decide)
  have qx2 := ox.fi 106 (by decide)
  have qm2 := om.fi 7 (by decide)
  have qx3 := ox.fi 3909 (by decide)
  have qm3 := om.fi 43 (by decide)
  have qx4 := ox.fi 3403 (by decide)
  have qm4 := om.fi 22 (by decide)
  exact ⟨tx1, rx1, tm1, RM_same rm om (by decide) (by decide), RN_same rn om (by decide) (by decide), by omega, by omega, by omega, by omega, by omega, (ox.2 2 (by decide)).trans (hf0.trans (om.2 1 (by decide)).symm), (ox.2 3 (by decide)).trans (hf1.trans (om.2 2 (by decide)).symm), (ox.2 4 (by decide)).trans (hf2.trans (om.2 3 (by decide)).symm), (ox.2 38 (by decide)).trans (hf3.trans (om.2 25 (by decide)).symm), XJ_m (XJ_x xj ox (by decide) (by decide)) om (by decide) (by decide), SJ_mv sj ox om (by decide) (by decide) (by decide) (by decide)⟩
theorem lw_store {zx zm : St} (hj : J9 zx zm) : (∀ (v0 v1 v2 v3 v4 v5 v6 : Int32), wp_X8_store v0 v1 v2 v3 v4 v5 v6 zx (fun r1 zx1 => (wp_X9_store v0 v1 v2 v3 v4 v5 v6 zm (fun r2 zm1 => J9 zx1 zm1)))) := by
  obtain ⟨tx, rx, tm, rm, rn, q1, q2, q3, q4, q5, h1, h2, h3, h4, xj, sj⟩ := id hj
  have e8 : gI zx 705 = gI zm 8 := xj.2.2.2.2.1.1.2.1
  have e9 : gI zx 3909 = gI zm 43 := sj.2.1.1
  have f43 : 0 ≤ (gI zm 43).toInt ∧ (gI zm 43).toInt ≤ 6 := tm.1 43
  have c43 := clampN f43.1
  intro v0 v1 v2 v3 v4 v5 v6
  refine v_X8_store v0 v1 v2 v3 v4 v5 v6 zx _ tx (fun ng r1 zx1 tx1 ox => ?_) (fun g r1 zx1 tx1 ox n1 x0 x1 x2 x3 x4 x5 x6 => ?_)
  · exact v_X9_store v0 v1 v2 v3 v4 v5 v6 zm _ tm (fun _ r2 zm1 tm1 om => JR hj tx1 ox tm1 om) (fun g => absurd (by rw [e8, e9]; exact g) ng)
  · refine v_X9_store v0 v1 v2 v3 v4 v5 v6 zm _ tm (fun ng => absurd (by rw [← e8, ← e9]; exact g) ng) (fun g' r2 zm1 tm1 om m1 y0 y1 y2 y3 y4 y5 y6 => ?_)
    rw [e9] at x0 x1 x2 x3 x4 x5 x6
    have rn1 : RN zm1 := by
      intro i
      rw [y1, y2]
      by_cases e : i = (gI zm 43).toNatClampNeg
      · rw [e, upd_at, upd_at]; exact g'.2.1.2
      · rw [upd_ne e, upd_ne e]; exact rn i
    have u0 := ox.fi 3701 (by decide)
    have w0 := om.fi 36 (by decide)
    have u1 := ox.fi 105 (by decide)
    have w1 := om.fi 3 (by decide)
    have u2 := ox.fi 106 (by decide)
    have w2 := om.fi 7 (by decide)
    have u3 := ox.fi 3403 (by decide)
    have w3 := om.fi 22 (by decide)
    exact ⟨tx1, RX_same rx ox (by decide) (by decide) (by decide) (by decide) (by decide) (by decide), tm1, RM_same rm om (by decide) (by decide), rn1, by omega, by omega, by omega, by rw [n1, m1, e9], by omega, (ox.2 2 (by decide)).trans (h1.trans (om.2 1 (by decide)).symm), (ox.2 3 (by decide)).trans (h2.trans (om.2 2 (by decide)).symm), (ox.2 4 (by decide)).trans (h3.trans (om.2 3 (by decide)).symm), (ox.2 38 (by decide)).trans (h4.trans (om.2 25 (by decide)).symm), XJ_m (XJ_x xj ox (by decide) (by decide)) om (by decide) (by decide), SJ_store sj f43 c43 g'.2.2.2.2.2.2.2 ox om n1 m1 x0 x1 x2 x3 x4 x5 x6 y0 y1 y2 y3 y4 y5 y6 g'.2.2.2.2.2.1⟩
theorem lw_level {zx zm : St} (hj : J9 zx zm) : (∀ (v0 v1 : Int32), wp_X8_level v0 v1 zx (fun r1 zx1 => (wp_X9_level v0 v1 zm (fun r2 zm1 => J9 zx1 zm1)))) := by
  obtain ⟨tx, rx, tm, rm, rn, q1, q2, q3, q4, q5, h1, h2, h3, h4, xj, sj⟩ := id hj
  have e9 : gI zx 3909 = gI zm 43 := sj.2.1.1
  have r1 : gF zx 41 = gF zm 27 := sj.1.2.1
  intro v0 v1
  refine v_X8_level v0 v1 zx _ tx (fun ng r1' zx1 tx1 ox => ?_) (fun g r1' zx1 tx1 ox x2 => ?_)
  · exact v_X9_level v0 v1 zm _ tm (fun _ r2 zm1 tm1 om => JR hj tx1 ox tm1 om) (fun g => absurd (by rw [e9, r1]; exact g) ng)
  · refine v_X9_level v0 v1 zm _ tm (fun ng => absurd (by rw [← e9, ← r1]; exact g) ng) (fun g' r2 zm1 tm1 om y2 => ?_)
    have rn1 : RN zm1 := by
      intro i
      rw [om.2 27 (by decide), y2]
      by_cases e : i = v0.toNatClampNeg
      · rw [e, upd_at]; exact g'.2.2
      · rw [upd_ne e]; exact rn i
    exact JK hj tx1 (RX_same rx ox (by decide) (by decide) (by decide) (by decide) (by decide) (by decide)) tm1 (RM_same rm om (by decide) (by decide)) rn1 ox om (by decide) (by decide) (by decide) (by decide) (XJ_m (XJ_x xj ox (by decide) (by decide)) om (by decide) (by decide)) (SJ_level sj ox om x2 y2)
theorem lw_fill {zx zm : St} (hj : J9 zx zm) : (∀ (v0 v1 v2 : Int32), wp_X8_fill v0 v1 v2 zx (fun r1 zx1 => (wp_X9_fill v0 v1 v2 zm (fun r2 zm1 => J9 zx1 zm1)))) := by
  obtain ⟨tx, rx, tm, rm, rn, q1, q2, q3, q4, q5, h1, h2, h3, h4, xj, sj⟩ := id hj
  obtain ⟨fr, de, rq, ⟨bb, wnd, pl, pn, bz⟩, cp⟩ := id xj
  obtain ⟨⟨r0, r1, r2, r3, r4, r5, r6⟩, ⟨e9, e15⟩, wb, fu, fl⟩ := id sj
  have e2 : gI zx 2104 = gI zm 2 := cp.1.1.2.2.2
  have f2 : 0 ≤ (gI zm 2).toInt ∧ (gI zm 2).toInt ≤ 167 := tm.1 2
  have c2 := clampN f2.1
  have hlm : ∀ s : Nat, (gF zx 42 s).toInt ≤ (gF zx 41 s).toInt := fun s => by rw [r2, r1]; exact rn s
  have hwx : ∀ s : Nat, (s : Int) < (gI zx 3909).toInt → 1 ≤ (gF zx 46 s).toInt ∧ (gF zx 46 s).toInt ≤ 1000 := fun s hs => by rw [r6]; exact wb s (by rw [← e9]; exact hs)
  have hfx : ∀ i : Nat, 0 ≤ (gF zx 8 i).toInt ∧ (gF zx 8 i).toInt ≤ 20000 := fun i => by rw [cp.1.2.2.1.1]; exact fu i
  have hlx : ∀ hm h : Nat, hm < 4 → h < 168 → 0 ≤ (Fx zx hm h).toInt ∧ (Fx zx hm h).toInt ≤ 100000 := fun hm h k1 k2 => by rw [CP_Hs tm cp k1 k2]; exact Hs_bd tm bb pl k2
  have hpm : ∀ h : Nat, h < 168 → -1000 ≤ (PR zm (nI h) (gI zm 2)).toInt ∧ (PR zm (nI h) (gI zm 2)).toInt ≤ 10000 := fun h _ => prF_bd bb.2.2.1 bb.2.2.2 _
  have hpx : ∀ h : Nat, h < 168 → -1000 ≤ (gF zx 5 h).toInt ∧ (gF zx 5 h).toInt ≤ 10000 := fun h k => by rw [cp.2.2.1 h k]; exact hpm h k
  have hlq : ∀ (hm : Int32) (h : Nat), 0 ≤ hm.toInt → hm.toInt ≤ 3 → h < 168 → 0 ≤ (LD zm hm (nI h) (-1)).toInt ∧ (LD zm hm (nI h) (-1)).toInt ≤ 100000 := fun hm h k1 k2 k3 => by
    have it : (nI h).toInt = (h : Int) := nI_toInt (by omega)
    rw [LD_Hs tm ⟨k1, k2⟩ (by omega), nI_clamp (by omega)]
    exact Hs_bd tm bb pl k3
  have eg : ∀ v0 v1 v2 : Int32, GFl (gI zx 2104).toInt (gI zx 3909).toInt (gF zx 41) v0 v1 v2 ↔ GFl (gI zm 2).toInt (gI zm 43).toInt (gF zm 27) v0 v1 v2 := fun v0 v1 v2 => by rw [e2, e9, r1]
  intro v0 v1 v2
  have eT : GFl (gI zm 2).toInt (gI zm 43).toInt (gF zm 27) v0 v1 v2 → fGx zx v0.toNatClampNeg ((gI zm 2).toNatClampNeg + v1.toNatClampNeg - 1) = fGm zm v0.toNatClampNeg ((gI zm 2).toNatClampNeg + v1.toNatClampNeg - 1) ∧ fEx zx v0.toNatClampNeg ((gI zm 2).toNatClampNeg + v1.toNatClampNeg - 1) = fEm zm v0.toNatClampNeg ((gI zm 2).toNatClampNeg + v1.toNatClampNeg - 1) := by
    intro g
    have g1 := g.1
    have g2 := g.2.1
    have c1 := clampN (x := v1) (by omega)
    exact fG_eq tm cp sj (by omega)
  refine v_X8_fill v0 v1 v2 zx _ tx hlm hwx hfx hlx hpx (fun ng r1' zx1 tx1 ox => ?_) (fun g nv r1' zx1 tx1 ox => ?_) (fun g hv r1' zx1 tx1 ox n1 fl1 => ?_)
  · exact v_X9_fill v0 v1 v2 zm _ tm rn wb fu hlq hpm (fun _ r2' zm1 tm1 om => JR hj tx1 ox tm1 om) (fun g => absurd ((eg v0 v1 v2).mpr g) ng) (fun g => absurd ((eg v0 v1 v2).mpr g) ng)
  · have g' := (eg v0 v1 v2).mp g
    rw [e2, (eT g').1, (eT g').2, r5, r2] at nv
    refine v_X9_fill v0 v1 v2 zm _ tm rn wb fu hlq hpm (fun ng => absurd g' ng) (fun _ _ r2' zm1 tm1 om => ?_) (fun _ hv => ?_)
    · exact JK hj tx1 (RX_same rx ox (by decide) (by decide) (by decide) (by decide) (by decide) (by decide)) tm1 (RM_same rm om (by decide) (by decide)) (RN_same rn om (by decide) (by decide)) ox om (by decide) (by decide) (by decide) (by decide) (XJ_m (XJ_x xj ox (by decide) (by decide)) om (by decide) (by decide)) (SJ_mv sj ox om (by decide) (by decide) (by decide) (by decide))
    · obtain ⟨c, hc⟩ := hv
      exact absurd hc (nv c)
  · have g' := (eg v0 v1 v2).mp g
    rw [e2, (eT g').1, (eT g').2, r5, r2] at hv fl1
    refine v_X9_fill v0 v1 v2 zm _ tm rn wb fu hlq hpm (fun ng => absurd g' ng) (fun _ nv => ?_) (fun _ _ r2' zm1 tm1 om m1 fl2 => ?_)
    · obtain ⟨c, hc⟩ := hv
      exact absurd hc (nv c)
    · have c1 := clampN (x := v1) (by have := g'.1; omega)
      exact JK hj tx1 (RX_same rx ox (by decide) (by decide) (by decide) (by decide) (by decide) (by decide)) tm1 (RM_same rm om (by decide) (by decide)) (RN_same rn om (by decide) (by decide)) ox om (by decide) (by decide) (by decide) (by decide) (XJ_m (XJ_x xj ox (by decide) (by decide)) om (by decide) (by decide)) (SJ_fill sj ox om n1 m1 (fun i hi => FWY_uniq fl1 fl2 i (by omega)))
theorem lw_filled {zx zm : St} (hj : J9 zx zm) : (∀ (v0 v1 : Int32), wp_X8_filled v0 v1 zx (fun r1 => (wp_X9_filled v0 v1 zm (fun r2 zm1 => (r1 = r2 ∧ J9 zx zm1))))) := by
  obtain ⟨tx, rx, tm, rm, rn, q1, q2, q3, q4, q5, h1, h2, h3, h4, xj, sj⟩ := id hj
  obtain ⟨_, ⟨_, e15⟩, _, _, fl⟩ := id sj
  intro v0 v1
  refine v_X8_filled v0 v1 zx _ tx ?_
  refine v_X9_filled v0 v1 zm _ tm (fun zm1 tm1 om => ⟨?_, JR hj tx Same.rf tm1 om⟩)
  unfold FDf
  rw [e15]
  by_cases c : 0 ≤ v0.toInt ∧ v0.toInt < (gI zm 55).toInt
  · have c0 := clampN c.1
    have q := fl v0.toNatClampNeg (by omega)
    rw [if_pos c, if_pos c, q.1, q.2]
  · rw [if_neg c, if_neg c]
theorem lw_count {zx zm : St} (hj : J9 zx zm) : (∀ (v0 : Int32), wp_X8_count v0 zx (fun r1 => (wp_X9_count v0 zm (fun r2 zm1 => J9 zx zm1)))) := by
  obtain ⟨tx, rx, tm, rm, rn, hq0, hq1, hq2, hq3, hq4, hf0, hf1, hf2, hf3, xj, sj⟩ := hj
  intro v0
  refine s_X8_count v0 zx _ tx (fun r1 px => ?_)
  refine s_X9_count v0 zm _ tm  (fun r2 zm1 tm1 om  pm => ?_)
  have qm0 := om.fi 36 (by decide)
  have qm1 := om.fi 3 (by decide)
  have qm2 := om.fi 7 (by decide)
  have qm3 := om.fi 43 (by decide)
  have qm4 := om.fi 22 (by decide)
  exact ⟨tx, rx, tm1, RM_same rm om (by decide) (by decide), RN_same rn om (by decide) (by decide), by omega, by omega, by omega, by omega, by omega, (hf0.trans (om.2 1 (by decide)).symm), (hf1.trans (om.2 2 (by decide)).symm), (hf2.trans (om.2 3 (by decide)).symm), (hf3.trans (om.2 25 (by decide)).symm), XJ_m xj om (by decide) (by decide), SJ_mv sj (Same.rf (I := []) (F := [])) om (by decide) (by decide) (by decide) (by decide)⟩
theorem lw_status {zx zm : St} (hj : J9 zx zm) : (wp_X8_status zx (fun r1 => (wp_X9_status zm (fun r2 zm1 => J9 zx zm1)))) := by
  obtain ⟨tx, rx, tm, rm, rn, hq0, hq1, hq2, hq3, hq4, hf0, hf1, hf2, hf3, xj, sj⟩ := hj
  refine s_X8_status  zx _ tx (fun r1 px => ?_)
  refine s_X9_status  zm _ tm  (fun r2 zm1 tm1 om  pm => ?_)
  have qm0 := om.fi 36 (by decide)
  have qm1 := om.fi 3 (by decide)
  have qm2 := om.fi 7 (by decide)
  have qm3 := om.fi 43 (by decide)
  have qm4 := om.fi 22 (by decide)
  exact ⟨tx, rx, tm1, RM_same rm om (by decide) (by decide), RN_same rn om (by decide) (by decide), by omega, by omega, by omega, by omega, by omega, (hf0.trans (om.2 1 (by decide)).symm), (hf1.trans (om.2 2 (by decide)).symm), (hf2.trans (om.2 3 (by decide)).symm), (hf3.trans (om.2 25 (by decide)).symm), XJ_m xj om (by decide) (by decide), SJ_mv sj (Same.rf (I := []) (F := [])) om (by decide) (by decide) (by decide) (by decide)⟩
theorem lawOk9 : LawOk J9 := fun zx zm hj => ⟨lw_price hj, lw_plain hj, lw_at hj, lw_home hj, lw_base hj, lw_cable hj, lw_job hj, lw_of hj, lw_may hj, lw_put hj, lw_whole hj, lw_each hj, lw_feed hj, lw_end hj, lw_rules hj, lw_fault hj, lw_go hj, lw_load hj, lw_cost hj, lw_saved hj, lw_store hj, lw_level hj, lw_fill hj, lw_filled hj, lw_count hj, lw_status hj⟩
theorem TX_0 : TX z0X := by
  refine ⟨fun j => ?_, fun k i => ?_⟩
  · show okX j (z0X.1 j)
    unfold okX
    by_cases e105 : j = 105
    · subst e105; exact (by decide)
    rw [if_neg e105]
    by_cases e705 : j = 705
    · subst e705; exact (by decide)
    rw [if_neg e705]
    by_cases e1308 : j = 1308
    · subst e1308; exact (by decide)
    rw [if_neg e1308]
    by_cases e2104 : j = 2104
    · subst e2104; exact (by decide)
    rw [if_neg e2104]
    by_cases e2213 : j = 2213
    · subst e2213; exact (by decide)
    rw [if_neg e2213]
    by_cases e3701 : j = 3701
    · subst e3701; exact (by decide)
    rw [if_neg e3701]
    by_cases e3702 : j = 3702
    · subst e3702; exact (by decide)
    rw [if_neg e3702]
    by_cases e3703 : j = 3703
    · subst e3703; exact (by decide)
    rw [if_neg e3703]
    by_cases e3909 : j = 3909
    · subst e3909; exact (by decide)
    rw [if_neg e3909]
    by_cases e3915 : j = 3915
    · subst e3915; exact (by decide)
    rw [if_neg e3915]
    trivial
  · show okXF k i (z0X.2.1 k i)
    unfold okXF
    by_cases e49 : k = 49
    · subst e49; show -10 ≤ (0 : Int32).toInt ∧ (0 : Int32).toInt ≤ 40 - ((i % 41 : Nat) : Int); have e0 : (0 : Int32).toInt = 0 := rfl; omega
    rw [if_neg e49]
    by_cases e2 : k = 2
    · subst e2; show 0 ≤ (0 : Int32).toInt ∧ (0 : Int32).toInt ≤ 167; decide
    rw [if_neg e2]
    by_cases e14 : k = 14
    · subst e14; show 0 ≤ (0 : Int32).toInt ∧ (0 : Int32).toInt ≤ 3; decide
    rw [if_neg e14]
    by_cases e15 : k = 15
    · subst e15; show 0 ≤ (0 : Int32).toInt ∧ (0 : Int32).toInt ≤ 167; decide
    rw [if_neg e15]
    by_cases e16 : k = 16
    · subst e16; show 0 ≤ (0 : Int32).toInt ∧ (0 : Int32).toInt ≤ 167; decide
    rw [if_neg e16]
    by_cases e17 : k = 17
    · subst e17; show 0 ≤ (0 : Int32).toInt ∧ (0 : Int32).toInt ≤ 4; decide
    rw [if_neg e17]
    by_cases e19 : k = 19
    · subst e19; show 0 ≤ (0 : Int32).toInt ∧ (0 : Int32).toInt ≤ 2; decide
    rw [if_neg e19]
    by_cases e20 : k = 20
    · subst e20; show -1 ≤ (0 : Int32).toInt ∧ (0 : Int32).toInt ≤ 167; decide
    rw [if_neg e20]
    by_cases e23 : k = 23
    · subst e23; show 0 ≤ (0 : Int32).toInt ∧ (0 : Int32).toInt ≤ 15; decide
    rw [if_neg e23]
    by_cases e24 : k = 24
    · subst e24; show -1 ≤ (0 : Int32).toInt ∧ (0 : Int32).toInt ≤ 167; decide
    rw [if_neg e24]
    by_cases e25 : k = 25
    · subst e25; show 0 ≤ (0 : Int32).toInt ∧ (0 : Int32).toInt ≤ 24; decide
    rw [if_neg e25]
    by_cases e26 : k = 26
    · subst e26; show 0 ≤ (0 : Int32).toInt ∧ (0 : Int32).toInt ≤ 23; decide
    rw [if_neg e26]
    by_cases e27 : k = 27
    · subst e27; show 0 ≤ (0 : Int32).toInt ∧ (0 : Int32).toInt ≤ 23; decide
    rw [if_neg e27]
    by_cases e32 : k = 32
    · subst e32; show 0 ≤ (0 : Int32).toInt ∧ (0 : Int32).toInt ≤ 23; decide
    rw [if_neg e32]
    by_cases e33 : k = 33
    · subst e33; show 0 ≤ (0 : Int32).toInt ∧ (0 : Int32).toInt ≤ 23; decide
    rw [if_neg e33]
    by_cases e40 : k = 40
    · subst e40; show 0 ≤ (0 : Int32).toInt ∧ (0 : Int32).toInt ≤ 3; decide
    rw [if_neg e40]
    by_cases e41 : k = 41
    · subst e41; show 0 ≤ (0 : Int32).toInt ∧ (0 : Int32).toInt ≤ 40; decide
    rw [if_neg e41]
    by_cases e42 : k = 42
    · subst e42; show 0 ≤ (0 : Int32).toInt ∧ (0 : Int32).toInt ≤ 40; decide
    rw [if_neg e42]
    by_cases e43 : k = 43
    · subst e43; show 0 ≤ (0 : Int32).toInt ∧ (0 : Int32).toInt ≤ 10; decide
    rw [if_neg e43]
    by_cases e44 : k = 44
    · subst e44; show 0 ≤ (0 : Int32).toInt ∧ (0 : Int32).toInt ≤ 10; decide
    rw [if_neg e44]
    by_cases e45 : k = 45
    · subst e45; show 0 ≤ (0 : Int32).toInt ∧ (0 : Int32).toInt ≤ 3; decide
    rw [if_neg e45]
    trivial
theorem TM_0 : TM z0M := by
  refine ⟨fun j => ?_, fun k i => ?_⟩
  · show okM j (z0M.1 j)
    unfold okM
    by_cases e2 : j = 2
    · subst e2; exact (by decide)
    rw [if_neg e2]
    by_cases e3 : j = 3
    · subst e3; exact (by decide)
    rw [if_neg e3]
    by_cases e8 : j = 8
    · subst e8; exact (by decide)
    rw [if_neg e8]
    by_cases e12 : j = 12
    · subst e12; exact (by decide)
    rw [if_neg e12]
    by_cases e22 : j = 22
    · subst e22; exact (by decide)
    rw [if_neg e22]
    by_cases e34 : j = 34
    · subst e34; exact (by decide)
    rw [if_neg e34]
    by_cases e36 : j = 36
    · subst e36; exact (by decide)
    rw [if_neg e36]
    by_cases e37 : j = 37
    · subst e37; exact (by decide)
    rw [if_neg e37]
    by_cases e38 : j = 38
    · subst e38; exact (by decide)
    rw [if_neg e38]
    by_cases e42 : j = 42
    · subst e42; exact (by decide)
    rw [if_neg e42]
    by_cases e43 : j = 43
    · subst e43; exact (by decide)
    rw [if_neg e43]
    by_cases e55 : j = 55
    · subst e55; exact (by decide)
    rw [if_neg e55]
    trivial
  · show okMF k i (z0M.2.1 k i)
    unfold okMF
    by_cases e1 : k = 1
    · subst e1; show 0 ≤ (0 : Int32).toInt ∧ (0 : Int32).toInt ≤ 167; decide
    rw [if_neg e1]
    by_cases e6 : k = 6
    · subst e6; show 0 ≤ (0 : Int32).toInt ∧ (0 : Int32).toInt ≤ 3; decide
    rw [if_neg e6]
    by_cases e7 : k = 7
    · subst e7; show 0 ≤ (0 : Int32).toInt ∧ (0 : Int32).toInt ≤ 167; decide
    rw [if_neg e7]
    by_cases e8 : k = 8
    · subst e8; show 0 ≤ (0 : Int32).toInt ∧ (0 : Int32).toInt ≤ 167; decide
    rw [if_neg e8]
    by_cases e9 : k = 9
    · subst e9; show 0 ≤ (0 : Int32).toInt ∧ (0 : Int32).toInt ≤ 4; decide
    rw [if_neg e9]
    by_cases e18 : k = 18
    · subst e18; show 0 ≤ (0 : Int32).toInt ∧ (0 : Int32).toInt ≤ 15; decide
    rw [if_neg e18]
    by_cases e26 : k = 26
    · subst e26; show 0 ≤ (0 : Int32).toInt ∧ (0 : Int32).toInt ≤ 3; decide
    rw [if_neg e26]
    by_cases e27 : k = 27
    · subst e27; show 0 ≤ (0 : Int32).toInt ∧ (0 : Int32).toInt ≤ 40; decide
    rw [if_neg e27]
    by_cases e28 : k = 28
    · subst e28; show 0 ≤ (0 : Int32).toInt ∧ (0 : Int32).toInt ≤ 40; decide
    rw [if_neg e28]
    by_cases e29 : k = 29
    · subst e29; show 0 ≤ (0 : Int32).toInt ∧ (0 : Int32).toInt ≤ 10; decide
    rw [if_neg e29]
    by_cases e30 : k = 30
    · subst e30; show 0 ≤ (0 : Int32).toInt ∧ (0 : Int32).toInt ≤ 10; decide
    rw [if_neg e30]
    by_cases e31 : k = 31
    · subst e31; show 0 ≤ (0 : Int32).toInt ∧ (0 : Int32).toInt ≤ 3; decide
    rw [if_neg e31]
    trivial
theorem XJ_0 : XJ z0X z0M := by
  have e0 : (0 : Int32).toInt = 0 := rfl
  have n12 : ∀ o : Nat, ¬ (o : Int) < (gI z0M 12).toInt := fun o h => by
    have h' : (o : Int) < (0 : Int32).toInt := h
    omega
  have bd : BD z0M := ⟨fun j k hj => absurd hj (n12 j), show -1000 ≤ (100 : Int32).toInt ∧ (100 : Int32).toInt ≤ 10000 by decide, fun i => show -1000 ≤ (0 : Int32).toInt ∧ (0 : Int32).toInt ≤ 10000 by decide⟩
  have n22 : ∀ r : Nat, ¬ (r : Int) < (gI z0M 22).toInt := fun r h => by
    have h' : (r : Int) < (0 : Int32).toInt := h
    omega
  have de : DEq z0X z0M := by
    intro x hx
    refine ⟨fun h => ?_, fun ⟨r, h, _⟩ => absurd h (n22 r)⟩
    have h' : (10000 : Int32) < x := h
    have := i_lt (p := 10000) rfl rfl h'
    omega
  have rq : RQ z0X z0M := by
    refine ⟨fun h t _ _ => ⟨fun q => ?_, fun ⟨r, h, _⟩ => absurd h (n22 r)⟩, fun i j _ _ => ⟨fun q => ?_, fun ⟨r, h, _⟩ => absurd h (n22 r)⟩, fun i _ ⟨r, h, _⟩ => absurd h (n22 r)⟩
    · have q' : bt (0 : Int32) (nI t) := q
      exact absurd q' bt_no
    · have q' : bt (0 : Int32) (nI j) := q
      exact absurd q' bt_no
  have td : TD z0X z0M := by
    intro t ht
    show (if t < 168 then (100 : Int32) else 0) = 100
    rw [if_pos ht]
  refine ⟨fun q => absurd rfl q, de, rq, ⟨⟨fun i => show 0 ≤ (0 : Int32).toInt ∧ (0 : Int32).toInt ≤ 5000 by decide, bd⟩, fun j => show (0 : Int32).toInt ≤ (0 : Int32).toInt + 1 by decide, fun o ho => absurd ho (n12 o), fun o ho => absurd ho (n12 o), fun i _ => rfl⟩, ⟨⟨⟨rfl, rfl, rfl, rfl⟩, ⟨rfl, rfl, rfl, rfl, rfl⟩, ⟨rfl, rfl⟩, fun t _ => rfl, fun j hj => absurd hj (n12 j)⟩, RE_of rq de td bd, td, ⟨fun h t _ _ => rfl, fun t _ => rfl⟩, fun o ho => absurd ho (n12 o), fun o ho => absurd ho (n12 o)⟩⟩
theorem SJ_0 : SJ z0X z0M := by
  have n0 : ∀ s : Nat, ¬ (s : Int) < (0 : Int32).toInt := fun s h => by
    have e0 : (0 : Int32).toInt = 0 := rfl
    omega
  exact ⟨⟨rfl, rfl, rfl, rfl, rfl, rfl, rfl⟩, ⟨rfl, rfl⟩, fun s hs => absurd (show (s : Int) < (0 : Int32).toInt from hs) (n0 s), fun i => show 0 ≤ (0 : Int32).toInt ∧ (0 : Int32).toInt ≤ 20000 by decide, fun i hi => absurd (show (i : Int) < (0 : Int32).toInt from hi) (n0 i)⟩
theorem J9_0 : J9 z0X z0M := by
  have e0 : (0 : Int32).toInt = 0 := rfl
  refine ⟨TX_0, ⟨fun i => Or.inl e0, fun i => ?_, fun i _ => e0, fun i h => ?_⟩, TM_0, fun i => ?_, fun i => ?_, by decide, by decide, by decide, by decide, by decide, rfl, rfl, rfl, rfl, XJ_0, SJ_0⟩
  · show (0 : Int32).toInt - (0 : Int32).toInt ≤ 23; decide
  · have h' : (i : Int) < (0 : Int32).toInt := h
    omega
  · show (0 : Int32).toInt - (0 : Int32).toInt ≤ 23; decide
  · show (0 : Int32).toInt ≤ (0 : Int32).toInt; decide
