def J9 (zx zm : St) : Prop := TX zx ∧ RX zx ∧ TM zm ∧ RM zm ∧ RN zm ∧ (gI zx 705).toInt = (gI zm 8).toInt ∧ (gI zx 3909).toInt = (gI zm 43).toInt
theorem lw_price {zx zm : St} (hj : J9 zx zm) : (∀ (v0 v1 v2 : Int32), wp_X8_price v0 v1 v2 zx (fun r1 zx1 => (wp_X9_price v0 v1 v2 zm (fun r2 zm1 => J9 zx1 zm1)))) := by
  obtain ⟨tx, rx, tm, rm, rn, hq0, hq1⟩ := hj
  intro v0 v1 v2
  refine s_X8_price v0 v1 v2 zx _ tx (fun r1 zx1 tx1 ox px => ?_)
  refine s_X9_price v0 v1 v2 zm _ tm  (fun r2 zm1 tm1 om  pm => ?_)
  have qx0 := ox.fi 705 (by decide)
  have qm0 := om.fi 8 (by decide)
  have qx1 := ox.fi 3909 (by decide)
  have qm1 := om.fi 43 (by decide)
  exact ⟨tx1, RX_same rx ox (by decide) (by decide) (by decide) (by decide) (by decide) (by decide), tm1, RM_same rm om (by decide) (by decide), RN_same rn om (by decide) (by decide), by omega, by omega⟩
theorem lw_plain {zx zm : St} (hj : J9 zx zm) : (∀ (v0 : Int32), wp_X8_plain v0 zx (fun r1 zx1 => (wp_X9_plain v0 zm (fun r2 zm1 => J9 zx1 zm1)))) := by
  obtain ⟨tx, rx, tm, rm, rn, hq0, hq1⟩ := hj
  intro v0
  refine s_X8_plain v0 zx _ tx (fun r1 zx1 tx1 ox px => ?_)
  refine s_X9_plain v0 zm _ tm  (fun r2 zm1 tm1 om  pm => ?_)
  have qx0 := ox.fi 705 (by decide)
  have qm0 := om.fi 8 (by decide)
  have qx1 := ox.fi 3909 (by decide)
  have qm1 := om.fi 43 (by decide)
  exact ⟨tx1, RX_same rx ox (by decide) (by decide) (by decide) (by decide) (by decide) (by decide), tm1, RM_same rm om (by decide) (by decide), RN_same rn om (by decide) (by decide), by omega, by omega⟩
theorem lw_at {zx zm : St} (hj : J9 zx zm) : (∀ (v0 v1 : Int32), wp_X8_at v0 v1 zx (fun r1 => (wp_X9_at v0 v1 zm (fun r2 zm1 => J9 zx zm1)))) := by
  obtain ⟨tx, rx, tm, rm, rn, hq0, hq1⟩ := hj
  intro v0 v1
  refine s_X8_at v0 v1 zx _ tx (fun r1 px => ?_)
  refine s_X9_at v0 v1 zm _ tm  (fun r2 zm1 tm1 om  pm => ?_)
  have qm0 := om.fi 8 (by decide)
  have qm1 := om.fi 43 (by decide)
  exact ⟨tx, rx, tm1, RM_same rm om (by decide) (by decide), RN_same rn om (by decide) (by decide), by omega, by omega⟩
theorem lw_home {zx zm : St} (hj : J9 zx zm) : (∀ (v0 : Int32), wp_X8_home v0 zx (fun r1 zx1 => (wp_X9_home v0 zm (fun r2 zm1 => J9 zx1 zm1)))) := by
  obtain ⟨tx, rx, tm, rm, rn, hq0, hq1⟩ := hj
  intro v0
  refine s_X8_home v0 zx _ tx (fun r1 zx1 tx1 ox px => ?_)
  refine s_X9_home v0 zm _ tm  (fun r2 zm1 tm1 om  pm => ?_)
  have qx1 := ox.fi 3909 (by decide)
  have qm1 := om.fi 43 (by decide)
  exact ⟨tx1, RX_same rx ox (by decide) (by decide) (by decide) (by decide) (by decide) (by decide), tm1, RM_same rm om (by decide) (by decide), RN_same rn om (by decide) (by decide), by omega, by omega⟩
theorem lw_base {zx zm : St} (hj : J9 zx zm) : (∀ (v0 v1 v2 : Int32), wp_X8_base v0 v1 v2 zx (fun r1 zx1 => (wp_X9_base v0 v1 v2 zm (fun r2 zm1 => J9 zx1 zm1)))) := by
  obtain ⟨tx, rx, tm, rm, rn, hq0, hq1⟩ := hj
  intro v0 v1 v2
  refine s_X8_base v0 v1 v2 zx _ tx (fun r1 zx1 tx1 ox px => ?_)
  refine s_X9_base v0 v1 v2 zm _ tm  (fun r2 zm1 tm1 om  pm => ?_)
  have qx0 := ox.fi 705 (by decide)
  have qm0 := om.fi 8 (by decide)
  have qx1 := ox.fi 3909 (by decide)
  have qm1 := om.fi 43 (by decide)
  exact ⟨tx1, RX_same rx ox (by decide) (by decide) (by decide) (by decide) (by decide) (by decide), tm1, RM_same rm om (by decide) (by decide), RN_same rn om (by decide) (by decide), by omega, by omega⟩
theorem lw_cable {zx zm : St} (hj : J9 zx zm) : (∀ (v0 : Int32), wp_X8_cable v0 zx (fun r1 zx1 => (wp_X9_cable v0 zm (fun r2 zm1 => J9 zx1 zm1)))) := by
  obtain ⟨tx, rx, tm, rm, rn, hq0, hq1⟩ := hj
  intro v0
  refine s_X8_cable v0 zx _ tx (fun r1 zx1 tx1 ox px => ?_)
  refine s_X9_cable v0 zm _ tm  (fun r2 zm1 tm1 om  pm => ?_)
  have qx0 := ox.fi 705 (by decide)
  have qm0 := om.fi 8 (by decide)
  have qx1 := ox.fi 3909 (by decide)
  have qm1 := om.fi 43 (by decide)
  exact ⟨tx1, RX_same rx ox (by decide) (by decide) (by decide) (by decide) (by decide) (by decide), tm1, RM_same rm om (by decide) (by decide), RN_same rn om (by decide) (by decide), by omega, by omega⟩
theorem lw_job {zx zm : St} (hj : J9 zx zm) : (∀ (v0 v1 v2 v3 v4 v5 v6 v7 : Int32), wp_X8_job v0 v1 v2 v3 v4 v5 v6 v7 zx (fun r1 zx1 => (wp_X9_job v0 v1 v2 v3 v4 v5 v6 v7 zm (fun r2 zm1 => J9 zx1 zm1)))) := by
  obtain ⟨tx, rx, tm, rm, rn, hq0, hq1⟩ := hj
  intro v0 v1 v2 v3 v4 v5 v6 v7
  refine s_X8_job v0 v1 v2 v3 v4 v5 v6 v7 zx _ tx rx (fun r1 zx1 tx1 ox rx1 px => ?_)
  refine s2_X9_job v0 v1 v2 v3 v4 v5 v6 v7 zm _ tm rm (fun r2 zm1 tm1 om rm1 pm => ?_)
  have qx0 := ox.fi 705 (by decide)
  have qm0 := om.fi 8 (by decide)
  have qx1 := ox.fi 3909 (by decide)
  have qm1 := om.fi 43 (by decide)
  exact ⟨tx1, rx1, tm1, rm1, RN_same rn om (by decide) (by decide), by omega, by omega⟩
theorem lw_of {zx zm : St} (hj : J9 zx zm) : (∀ (v0 v1 : Int32), wp_X8_of v0 v1 zx (fun r1 => (wp_X9_of v0 v1 zm (fun r2 zm1 => J9 zx zm1)))) := by
  obtain ⟨tx, rx, tm, rm, rn, hq0, hq1⟩ := hj
  intro v0 v1
  refine s_X8_of v0 v1 zx _ tx (fun r1 px => ?_)
  refine s_X9_of v0 v1 zm _ tm  (fun r2 zm1 tm1 om  pm => ?_)
  have qm0 := om.fi 8 (by decide)
  have qm1 := om.fi 43 (by decide)
  exact ⟨tx, rx, tm1, RM_same rm om (by decide) (by decide), RN_same rn om (by decide) (by decide), by omega, by omega⟩
theorem lw_may {zx zm : St} (hj : J9 zx zm) : (∀ (v0 v1 : Int32), wp_X8_may v0 v1 zx (fun r1 zx1 => (wp_X9_may v0 v1 zm (fun r2 zm1 => J9 zx1 zm1)))) := by
  obtain ⟨tx, rx, tm, rm, rn, hq0, hq1⟩ := hj
  intro v0 v1
  refine s_X8_may v0 v1 zx _ tx rx (fun r1 zx1 tx1 ox rx1 px => ?_)
  refine s_X9_may v0 v1 zm _ tm  (fun r2 zm1 tm1 om  pm => ?_)
  have qx0 := ox.fi 705 (by decide)
  have qm0 := om.fi 8 (by decide)
  have qx1 := ox.fi 3909 (by decide)
  have qm1 := om.fi 43 (by decide)
  exact ⟨tx1, rx1, tm1, RM_same rm om (by decide) (by decide), RN_same rn om (by decide) (by decide), by omega, by omega⟩
theorem lw_put {zx zm : St} (hj : J9 zx zm) : (∀ (v0 v1 : Int32), wp_X8_put v0 v1 zx (fun r1 zx1 => (wp_X9_put v0 v1 zm (fun r2 zm1 => J9 zx1 zm1)))) := by
  obtain ⟨tx, rx, tm, rm, rn, hq0, hq1⟩ := hj
  intro v0 v1
  refine s_X8_put v0 v1 zx _ tx rx (fun r1 zx1 tx1 ox rx1 px => ?_)
  refine s_X9_put v0 v1 zm _ tm  (fun r2 zm1 tm1 om  pm => ?_)
  have qx0 := ox.fi 705 (by decide)
  have qm0 := om.fi 8 (by decide)
  have qx1 := ox.fi 3909 (by decide)
  have qm1 := om.fi 43 (by decide)
  exact ⟨tx1, rx1, tm1, RM_same rm om (by decide) (by decide), RN_same rn om (by decide) (by decide), by omega, by omega⟩
theorem lw_whole {zx zm : St} (hj : J9 zx zm) : (wp_X8_whole zx (fun r1 zx1 => (wp_X9_whole zm (fun r2 zm1 => J9 zx1 zm1)))) := by
  obtain ⟨tx, rx, tm, rm, rn, hq0, hq1⟩ := hj
  refine s_X8_whole  zx _ tx rx (fun r1 zx1 tx1 ox rx1 px => ?_)
  refine s_X9_whole  zm _ tm rm (fun r2 zm1 tm1 om   => ?_)
  have qx0 := ox.fi 705 (by decide)
  have qm0 := om.fi 8 (by decide)
  have qx1 := ox.fi 3909 (by decide)
  have qm1 := om.fi 43 (by decide)
  exact ⟨tx1, rx1, tm1, RM_same rm om (by decide) (by decide), RN_same rn om (by decide) (by decide), by omega, by omega⟩
theorem lw_each {zx zm : St} (hj : J9 zx zm) : (wp_X8_each zx (fun r1 zx1 => (wp_X9_each zm (fun r2 zm1 => J9 zx1 zm1)))) := by
  obtain ⟨tx, rx, tm, rm, rn, hq0, hq1⟩ := hj
  refine s_X8_each  zx _ tx rx (fun r1 zx1 tx1 ox rx1 px => ?_)
  refine s_X9_each  zm _ tm  (fun r2 zm1 tm1 om  pm => ?_)
  have qx0 := ox.fi 705 (by decide)
  have qm0 := om.fi 8 (by decide)
  have qx1 := ox.fi 3909 (by decide)
  have qm1 := om.fi 43 (by decide)
  exact ⟨tx1, rx1, tm1, RM_same rm om (by decide) (by decide), RN_same rn om (by decide) (by decide), by omega, by omega⟩
theorem lw_feed {zx zm : St} (hj : J9 zx zm) : (∀ (v0 v1 v2 v3 v4 : Int32), wp_X8_feed v0 v1 v2 v3 v4 zx (fun r1 zx1 => (wp_X9_feed v0 v1 v2 v3 v4 zm (fun r2 zm1 => J9 zx1 zm1)))) := by
  obtain ⟨tx, rx, tm, rm, rn, hq0, hq1⟩ := hj
  intro v0 v1 v2 v3 v4
  refine s_X8_feed v0 v1 v2 v3 v4 zx _ tx (fun r1 zx1 tx1 ox px => ?_)
  refine s_X9_feed v0 v1 v2 v3 v4 zm _ tm  (fun r2 zm1 tm1 om  pm => ?_)
  have qx0 := ox.fi 705 (by decide)
  have qm0 := om.fi 8 (by decide)
  have qx1 := ox.fi 3909 (by decide)
  have qm1 := om.fi 43 (by decide)
  exact ⟨tx1, RX_same rx ox (by decide) (by decide) (by decide) (by decide) (by decide) (by decide), tm1, RM_same rm om (by decide) (by decide), RN_same rn om (by decide) (by decide), by omega, by omega⟩
theorem lw_end {zx zm : St} (hj : J9 zx zm) : (∀ (v0 : Int32), wp_X8_end v0 zx (fun r1 zx1 => (wp_X9_end v0 zm (fun r2 zm1 => J9 zx1 zm1)))) := by
  obtain ⟨tx, rx, tm, rm, rn, hq0, hq1⟩ := hj
  intro v0
  refine s_X8_end v0 zx _ tx (fun r1 zx1 tx1 ox px => ?_)
  refine s_X9_end v0 zm _ tm  (fun r2 zm1 tm1 om  pm => ?_)
  have qx0 := ox.fi 705 (by decide)
  have qm0 := om.fi 8 (by decide)
  have qx1 := ox.fi 3909 (by decide)
  have qm1 := om.fi 43 (by decide)
  exact ⟨tx1, RX_same rx ox (by decide) (by decide) (by decide) (by decide) (by decide) (by decide), tm1, RM_same rm om (by decide) (by decide), RN_same rn om (by decide) (by decide), by omega, by omega⟩
theorem lw_rules {zx zm : St} (hj : J9 zx zm) : (∀ (a : Nat → Nat) , wp_X8_rules a zx (fun r1 u1 => (wp_X9_rules zm (fun r2 zm1 => (u1.1 0 = a 0 ∧ J9 u1.2 zm1))))) := by
  obtain ⟨tx, rx, tm, rm, rn, hq0, hq1⟩ := hj
  intro a
  refine s_X8_rules a zx _ tx (fun r1 u1 tx1 ox h0 px => ?_)
  refine s_X9_rules  zm _ tm  (fun r2 zm1 tm1 om  pm => ?_)
  have qx0 := ox.fi 705 (by decide)
  have qm0 := om.fi 8 (by decide)
  have qx1 := ox.fi 3909 (by decide)
  have qm1 := om.fi 43 (by decide)
  exact ⟨h0, tx1, RX_same rx ox (by decide) (by decide) (by decide) (by decide) (by decide) (by decide), tm1, RM_same rm om (by decide) (by decide), RN_same rn om (by decide) (by decide), by omega, by omega⟩
theorem lw_fault {zx zm : St} (hj : J9 zx zm) : (wp_X8_fault zx (fun r1 => (wp_X9_fault zm (fun r2 zm1 => J9 zx zm1)))) := by
  obtain ⟨tx, rx, tm, rm, rn, hq0, hq1⟩ := hj
  refine s_X8_fault  zx _ tx (fun r1 px => ?_)
  refine s_X9_fault  zm _ tm  (fun r2 zm1 tm1 om  pm => ?_)
  have qm0 := om.fi 8 (by decide)
  have qm1 := om.fi 43 (by decide)
  exact ⟨tx, rx, tm1, RM_same rm om (by decide) (by decide), RN_same rn om (by decide) (by decide), by omega, by omega⟩
theorem lw_go {zx zm : St} (hj : J9 zx zm) : (∀ (v0 : Int32), wp_X8_go v0 zx (fun r1 zx1 => (wp_X9_go v0 zm (fun r2 zm1 => J9 zx1 zm1)))) := by
  obtain ⟨tx, rx, tm, rm, rn, hq0, hq1⟩ := hj
  intro v0
  refine s_X8_go v0 zx _ tx rx (fun r1 zx1 tx1 ox rx1 px => ?_)
  refine s_X9_go v0 zm _ tm  (fun r2 zm1 tm1 om  pm => ?_)
  have qx0 := ox.fi 705 (by decide)
  have qm0 := om.fi 8 (by decide)
  have qx1 := ox.fi 3909 (by decide)
  have qm1 := om.fi 43 (by decide)
  exact ⟨tx1, rx1, tm1, RM_same rm om (by decide) (by decide), RN_same rn om (by decide) (by decide), by omega, by omega⟩
theorem lw_load {zx zm : St} (hj : J9 zx zm) : (∀ (v0 v1 : Int32), wp_X8_load v0 v1 zx (fun r1 => (wp_X9_load v0 v1 zm (fun r2 zm1 => J9 zx zm1)))) := by
  obtain ⟨tx, rx, tm, rm, rn, hq0, hq1⟩ := hj
  intro v0 v1
  refine s_X8_load v0 v1 zx _ tx (fun r1 px => ?_)
  refine s_X9_load v0 v1 zm _ tm  (fun r2 zm1 tm1 om  pm => ?_)
  have qm0 := om.fi 8 (by decide)
  have qm1 := om.fi 43 (by decide)
  exact ⟨tx, rx, tm1, RM_same rm om (by decide) (by decide), RN_same rn om (by decide) (by decide), by omega, by omega⟩
theorem lw_cost {zx zm : St} (hj : J9 zx zm) : (∀ (v0 v1 : Int32), wp_X8_cost v0 v1 zx (fun r1 zx1 => (wp_X9_cost v0 v1 zm (fun r2 zm1 => J9 zx1 zm1)))) := by
  obtain ⟨tx, rx, tm, rm, rn, hq0, hq1⟩ := hj
  intro v0 v1
  refine s_X8_cost v0 v1 zx _ tx rx (fun r1 zx1 tx1 ox rx1 px => ?_)
  refine s_X9_cost v0 v1 zm _ tm  (fun r2 zm1 tm1 om  pm => ?_)
  have qx0 := ox.fi 705 (by decide)
  have qm0 := om.fi 8 (by decide)
  have qx1 := ox.fi 3909 (by decide)
  have qm1 := om.fi 43 (by decide)
  exact ⟨tx1, rx1, tm1, RM_same rm om (by decide) (by decide), RN_same rn om (by decide) (by decide), by omega, by omega⟩
theorem lw_saved {zx zm : St} (hj : J9 zx zm) : (∀ (v0 : Int32), wp_X8_saved v0 zx (fun r1 zx1 => (wp_X9_saved v0 zm (fun r2 zm1 => J9 zx1 zm1)))) := by
  obtain ⟨tx, rx, tm, rm, rn, hq0, hq1⟩ := hj
  intro v0
  refine s_X8_saved v0 zx _ tx rx (fun r1 zx1 tx1 ox rx1 px => ?_)
  refine s_X9_saved v0 zm _ tm  (fun r2 zm1 tm1 om  pm => ?_)
  have qx0 := ox.fi 705 (by decide)
  have qm0 := om.fi 8 (by decide)
  have qx1 := ox.fi 3909 (by decide)
  have qm1 := om.fi 43 (by decide)
  exact ⟨tx1, rx1, tm1, RM_same rm om (by decide) (by decide), RN_same rn om (by decide) (by decide), by omega, by omega⟩
theorem lw_store {zx zm : St} (hj : J9 zx zm) : (∀ (v0 v1 v2 v3 v4 v5 v6 : Int32), wp_X8_store v0 v1 v2 v3 v4 v5 v6 zx (fun r1 zx1 => (wp_X9_store v0 v1 v2 v3 v4 v5 v6 zm (fun r2 zm1 => (r1 = r2 ∧ J9 zx1 zm1))))) := by
  obtain ⟨tx, rx, tm, rm, rn, hq0, hq1⟩ := hj
  intro v0 v1 v2 v3 v4 v5 v6
  refine s3_X8_store v0 v1 v2 v3 v4 v5 v6 zx _ tx (fun r1 zx1 tx1 ox px => ?_)
  refine s3_X9_store v0 v1 v2 v3 v4 v5 v6 zm _ tm rn (fun r2 zm1 tm1 om rn1 pm => ?_)
  have qx0 := ox.fi 705 (by decide)
  have qm0 := om.fi 8 (by decide)
  have key : r1.toInt = r2.toInt ∧ (gI zx1 705).toInt = (gI zm1 8).toInt ∧ (gI zx1 3909).toInt = (gI zm1 43).toInt := by
    rcases px with p | p | p | p <;> rcases pm with m | m | m | m <;> first | omega | exact absurd m.2.2.2 p.2.2 | exact absurd m.2.2.2.2 p.2.2 | exact absurd p.2.2.2 m.2.2 | exact absurd p.2.2.2.2 m.2.2
  obtain ⟨k0, k1, k2⟩ := key
  exact ⟨toI_inj k0, tx1, RX_same rx ox (by decide) (by decide) (by decide) (by decide) (by decide) (by decide), tm1, RM_same rm om (by decide) (by decide), rn1, k1, k2⟩
theorem lw_level {zx zm : St} (hj : J9 zx zm) : (∀ (v0 v1 : Int32), wp_X8_level v0 v1 zx (fun r1 zx1 => (wp_X9_level v0 v1 zm (fun r2 zm1 => J9 zx1 zm1)))) := by
  obtain ⟨tx, rx, tm, rm, rn, hq0, hq1⟩ := hj
  intro v0 v1
  refine s_X8_level v0 v1 zx _ tx (fun r1 zx1 tx1 ox px => ?_)
  refine s2_X9_level v0 v1 zm _ tm rn (fun r2 zm1 tm1 om rn1 pm => ?_)
  have qx0 := ox.fi 705 (by decide)
  have qm0 := om.fi 8 (by decide)
  have qx1 := ox.fi 3909 (by decide)
  have qm1 := om.fi 43 (by decide)
  exact ⟨tx1, RX_same rx ox (by decide) (by decide) (by decide) (by decide) (by decide) (by decide), tm1, RM_same rm om (by decide) (by decide), rn1, by omega, by omega⟩
theorem lw_fill {zx zm : St} (hj : J9 zx zm) : (∀ (v0 v1 v2 : Int32), wp_X8_fill v0 v1 v2 zx (fun r1 zx1 => (wp_X9_fill v0 v1 v2 zm (fun r2 zm1 => J9 zx1 zm1)))) := by
  obtain ⟨tx, rx, tm, rm, rn, hq0, hq1⟩ := hj
  intro v0 v1 v2
  refine s_X8_fill v0 v1 v2 zx _ tx (fun r1 zx1 tx1 ox px => ?_)
  refine s_X9_fill v0 v1 v2 zm _ tm rn (fun r2 zm1 tm1 om   => ?_)
  have qx0 := ox.fi 705 (by decide)
  have qm0 := om.fi 8 (by decide)
  have qx1 := ox.fi 3909 (by decide)
  have qm1 := om.fi 43 (by decide)
  exact ⟨tx1, RX_same rx ox (by decide) (by decide) (by decide) (by decide) (by decide) (by decide), tm1, RM_same rm om (by decide) (by decide), RN_same rn om (by decide) (by decide), by omega, by omega⟩
theorem lw_filled {zx zm : St} (hj : J9 zx zm) : (∀ (v0 v1 : Int32), wp_X8_filled v0 v1 zx (fun r1 => (wp_X9_filled v0 v1 zm (fun r2 zm1 => J9 zx zm1)))) := by
  obtain ⟨tx, rx, tm, rm, rn, hq0, hq1⟩ := hj
  intro v0 v1
  refine s_X8_filled v0 v1 zx _ tx (fun r1 px => ?_)
  refine s_X9_filled v0 v1 zm _ tm  (fun r2 zm1 tm1 om  pm => ?_)
  have qm0 := om.fi 8 (by decide)
  have qm1 := om.fi 43 (by decide)
  exact ⟨tx, rx, tm1, RM_same rm om (by decide) (by decide), RN_same rn om (by decide) (by decide), by omega, by omega⟩
theorem lw_count {zx zm : St} (hj : J9 zx zm) : (∀ (v0 : Int32), wp_X8_count v0 zx (fun r1 => (wp_X9_count v0 zm (fun r2 zm1 => J9 zx zm1)))) := by
  obtain ⟨tx, rx, tm, rm, rn, hq0, hq1⟩ := hj
  intro v0
  refine s_X8_count v0 zx _ tx (fun r1 px => ?_)
  refine s_X9_count v0 zm _ tm  (fun r2 zm1 tm1 om  pm => ?_)
  have qm0 := om.fi 8 (by decide)
  have qm1 := om.fi 43 (by decide)
  exact ⟨tx, rx, tm1, RM_same rm om (by decide) (by decide), RN_same rn om (by decide) (by decide), by omega, by omega⟩
theorem lw_status {zx zm : St} (hj : J9 zx zm) : (wp_X8_status zx (fun r1 => (wp_X9_status zm (fun r2 zm1 => J9 zx zm1)))) := by
  obtain ⟨tx, rx, tm, rm, rn, hq0, hq1⟩ := hj
  refine s_X8_status  zx _ tx (fun r1 px => ?_)
  refine s_X9_status  zm _ tm  (fun r2 zm1 tm1 om  pm => ?_)
  have qm0 := om.fi 8 (by decide)
  have qm1 := om.fi 43 (by decide)
  exact ⟨tx, rx, tm1, RM_same rm om (by decide) (by decide), RN_same rn om (by decide) (by decide), by omega, by omega⟩
theorem lawOk9 : LawOk J9 := fun zx zm hj => ⟨lw_price hj, lw_plain hj, lw_at hj, lw_home hj, lw_base hj, lw_cable hj, lw_job hj, lw_of hj, lw_may hj, lw_put hj, lw_whole hj, lw_each hj, lw_feed hj, lw_end hj, lw_rules hj, lw_fault hj, lw_go hj, lw_load hj, lw_cost hj, lw_saved hj, lw_store hj, lw_level hj, lw_fill hj, lw_filled hj, lw_count hj, lw_status hj⟩
theorem TX_0 : TX z0X := by
  refine ⟨fun j => ?_, fun k i => ?_⟩
  · show okX j (z0X.1 j)
    unfold okX
    by_cases e105 : j = 105
    · subst e105; exact (by decide)
    rw [if_neg e105]
    by_cases e705 : j = 705
    · subst e705; exact (by decide)
    rw [if_neg e705]
    by_cases e1308 : j = 1308
    · subst e1308; exact (by decide)
    rw [if_neg e1308]
    by_cases e2104 : j = 2104
    · subst e2104; exact (by decide)
    rw [if_neg e2104]
    by_cases e2213 : j = 2213
    · subst e2213; exact (by decide)
    rw [if_neg e2213]
    by_cases e3701 : j = 3701
    · subst e3701; exact (by decide)
    rw [if_neg e3701]
    by_cases e3702 : j = 3702
    · subst e3702; exact (by decide)
    rw [if_neg e3702]
    by_cases e3703 : j = 3703
    · subst e3703; exact (by decide)
    rw [if_neg e3703]
    by_cases e3909 : j = 3909
    · subst e3909; exact (by decide)
    rw [if_neg e3909]
    by_cases e3915 : j = 3915
    · subst e3915; exact (by decide)
    rw [if_neg e3915]
    trivial
  · show okXF k i (z0X.2.1 k i)
    unfold okXF
    by_cases e49 : k = 49
    · subst e49; show -10 ≤ (0 : Int32).toInt ∧ (0 : Int32).toInt ≤ 40 - ((i % 41 : Nat) : Int); have e0 : (0 : Int32).toInt = 0 := rfl; omega
    rw [if_neg e49]
    by_cases e2 : k = 2
    · subst e2; show 0 ≤ (0 : Int32).toInt ∧ (0 : Int32).toInt ≤ 167; decide
    rw [if_neg e2]
    by_cases e14 : k = 14
    · subst e14; show 0 ≤ (0 : Int32).toInt ∧ (0 : Int32).toInt ≤ 3; decide
    rw [if_neg e14]
    by_cases e15 : k = 15
    · subst e15; show 0 ≤ (0 : Int32).toInt ∧ (0 : Int32).toInt ≤ 167; decide
    rw [if_neg e15]
    by_cases e16 : k = 16
    · subst e16; show 0 ≤ (0 : Int32).toInt ∧ (0 : Int32).toInt ≤ 167; decide
    rw [if_neg e16]
    by_cases e17 : k = 17
    · subst e17; show 0 ≤ (0 : Int32).toInt ∧ (0 : Int32).toInt ≤ 4; decide
    rw [if_neg e17]
    by_cases e19 : k = 19
    · subst e19; show 0 ≤ (0 : Int32).toInt ∧ (0 : Int32).toInt ≤ 2; decide
    rw [if_neg e19]
    by_cases e20 : k = 20
    · subst e20; show -1 ≤ (0 : Int32).toInt ∧ (0 : Int32).toInt ≤ 167; decide
    rw [if_neg e20]
    by_cases e23 : k = 23
    · subst e23; show 0 ≤ (0 : Int32).toInt ∧ (0 : Int32).toInt ≤ 15; decide
    rw [if_neg e23]
    by_cases e24 : k = 24
    · subst e24; show -1 ≤ (0 : Int32).toInt ∧ (0 : Int32).toInt ≤ 167; decide
    rw [if_neg e24]
    by_cases e25 : k = 25
    · subst e25; show 0 ≤ (0 : Int32).toInt ∧ (0 : Int32).toInt ≤ 24; decide
    rw [if_neg e25]
    by_cases e26 : k = 26
    · subst e26; show 0 ≤ (0 : Int32).toInt ∧ (0 : Int32).toInt ≤ 23; decide
    rw [if_neg e26]
    by_cases e27 : k = 27
    · subst e27; show 0 ≤ (0 : Int32).toInt ∧ (0 : Int32).toInt ≤ 23; decide
    rw [if_neg e27]
    by_cases e32 : k = 32
    · subst e32; show 0 ≤ (0 : Int32).toInt ∧ (0 : Int32).toInt ≤ 23; decide
    rw [if_neg e32]
    by_cases e33 : k = 33
    · subst e33; show 0 ≤ (0 : Int32).toInt ∧ (0 : Int32).toInt ≤ 23; decide
    rw [if_neg e33]
    by_cases e40 : k = 40
    · subst e40; show 0 ≤ (0 : Int32).toInt ∧ (0 : Int32).toInt ≤ 3; decide
    rw [if_neg e40]
    by_cases e41 : k = 41
    · subst e41; show 0 ≤ (0 : Int32).toInt ∧ (0 : Int32).toInt ≤ 40; decide
    rw [if_neg e41]
    by_cases e42 : k = 42
    · subst e42; show 0 ≤ (0 : Int32).toInt ∧ (0 : Int32).toInt ≤ 40; decide
    rw [if_neg e42]
    by_cases e43 : k = 43
    · subst e43; show 0 ≤ (0 : Int32).toInt ∧ (0 : Int32).toInt ≤ 10; decide
    rw [if_neg e43]
    by_cases e44 : k = 44
    · subst e44; show 0 ≤ (0 : Int32).toInt ∧ (0 : Int32).toInt ≤ 10; decide
    rw [if_neg e44]
    by_cases e45 : k = 45
    · subst e45; show 0 ≤ (0 : Int32).toInt ∧ (0 : Int32).toInt ≤ 3; decide
    rw [if_neg e45]
    trivial
theorem TM_0 : TM z0M := by
  refine ⟨fun j => ?_, fun k i => ?_⟩
  · show okM j (z0M.1 j)
    unfold okM
    by_cases e2 : j = 2
    · subst e2; exact (by decide)
    rw [if_neg e2]
    by_cases e3 : j = 3
    · subst e3; exact (by decide)
    rw [if_neg e3]
    by_cases e8 : j = 8
    · subst e8; exact (by decide)
    rw [if_neg e8]
    by_cases e12 : j = 12
    · subst e12; exact (by decide)
    rw [if_neg e12]
    by_cases e22 : j = 22
    · subst e22; exact (by decide)
    rw [if_neg e22]
    by_cases e34 : j = 34
    · subst e34; exact (by decide)
    rw [if_neg e34]
    by_cases e36 : j = 36
    · subst e36; exact (by decide)
    rw [if_neg e36]
    by_cases e37 : j = 37
    · subst e37; exact (by decide)
    rw [if_neg e37]
    by_cases e38 : j = 38
    · subst e38; exact (by decide)
    rw [if_neg e38]
    by_cases e42 : j = 42
    · subst e42; exact (by decide)
    rw [if_neg e42]
    by_cases e43 : j = 43
    · subst e43; exact (by decide)
    rw [if_neg e43]
    by_cases e55 : j = 55
    · subst e55; exact (by decide)
    rw [if_neg e55]
    trivial
  · show okMF k i (z0M.2.1 k i)
    unfold okMF
    by_cases e1 : k = 1
    · subst e1; show 0 ≤ (0 : Int32).toInt ∧ (0 : Int32).toInt ≤ 167; decide
    rw [if_neg e1]
    by_cases e6 : k = 6
    · subst e6; show 0 ≤ (0 : Int32).toInt ∧ (0 : Int32).toInt ≤ 3; decide
    rw [if_neg e6]
    by_cases e7 : k = 7
    · subst e7; show 0 ≤ (0 : Int32).toInt ∧ (0 : Int32).toInt ≤ 167; decide
    rw [if_neg e7]
    by_cases e8 : k = 8
    · subst e8; show 0 ≤ (0 : Int32).toInt ∧ (0 : Int32).toInt ≤ 167; decide
    rw [if_neg e8]
    by_cases e9 : k = 9
    · subst e9; show 0 ≤ (0 : Int32).toInt ∧ (0 : Int32).toInt ≤ 4; decide
    rw [if_neg e9]
    by_cases e18 : k = 18
    · subst e18; show 0 ≤ (0 : Int32).toInt ∧ (0 : Int32).toInt ≤ 15; decide
    rw [if_neg e18]
    by_cases e26 : k = 26
    · subst e26; show 0 ≤ (0 : Int32).toInt ∧ (0 : Int32).toInt ≤ 3; decide
    rw [if_neg e26]
    by_cases e27 : k = 27
    · subst e27; show 0 ≤ (0 : Int32).toInt ∧ (0 : Int32).toInt ≤ 40; decide
    rw [if_neg e27]
    by_cases e28 : k = 28
    · subst e28; show 0 ≤ (0 : Int32).toInt ∧ (0 : Int32).toInt ≤ 40; decide
    rw [if_neg e28]
    by_cases e29 : k = 29
    · subst e29; show 0 ≤ (0 : Int32).toInt ∧ (0 : Int32).toInt ≤ 10; decide
    rw [if_neg e29]
    by_cases e30 : k = 30
    · subst e30; show 0 ≤ (0 : Int32).toInt ∧ (0 : Int32).toInt ≤ 10; decide
    rw [if_neg e30]
    by_cases e31 : k = 31
    · subst e31; show 0 ≤ (0 : Int32).toInt ∧ (0 : Int32).toInt ≤ 3; decide
    rw [if_neg e31]
    trivial
theorem J9_0 : J9 z0X z0M := by
  have e0 : (0 : Int32).toInt = 0 := rfl
  refine ⟨TX_0, ⟨fun i => Or.inl e0, fun i => ?_, fun i _ => e0, fun i h => ?_⟩, TM_0, fun i => ?_, fun i => ?_, by decide, by decide⟩
  · show (0 : Int32).toInt - (0 : Int32).toInt ≤ 23; decide
  · have h' : (i : Int) < (0 : Int32).toInt := h
    omega
  · show (0 : Int32).toInt - (0 : Int32).toInt ≤ 23; decide
  · show (0 : Int32).toInt ≤ (0 : Int32).toInt; decide
