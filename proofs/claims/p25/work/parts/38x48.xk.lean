-- THE RELATION KEPT: what each call makes of it
theorem PX_m2 {z z2 : St} {I F : List Nat} (h : PX z) (s : Same I F z z2) (hI : 1308 ∉ I) (hF : ∀ x ∈ [10, 12, 14, 17, 18, 19, 20], x ∉ F) : PX z2 := by
  unfold PX PE at h ⊢
  rw [s.1 1308 hI, s.2 10 (hF _ (by decide)), s.2 12 (hF _ (by decide)), s.2 14 (hF _ (by decide)), s.2 17 (hF _ (by decide)), s.2 18 (hF _ (by decide)), s.2 19 (hF _ (by decide)), s.2 20 (hF _ (by decide))]
  exact h
/-- all but the homes, the cable, the prices and the hour: jobs, plan and rules stand on both sides -/
theorem XJ_w {zx zx1 zm zm1 : St} {I F I' F' : List Nat} (h : XJ zx zm) (ox : Same I F zx zx1) (om : Same I' F' zm zm1) (xI : ∀ x ∈ [1308, 3402], x ∉ I) (xF : ∀ x ∈ [10, 12, 14, 15, 16, 17, 18, 19, 20, 35, 36], x ∉ F) (mI : ∀ x ∈ [2, 12, 22], x ∉ I') (mF : ∀ x ∈ [6, 7, 8, 9, 10, 11, 12, 14, 15, 16, 17], x ∉ F') (fr : FR zm1) (bb : BB zm1) (bz : ∀ i : Nat, 24 * (gI zm1 8).toInt ≤ (i : Int) → gF zm1 5 i = 0) (td : TD zx1 zm1) (c1 : gI zx1 705 = gI zm1 8 ∧ gI zx1 706 = gI zm1 11 ∧ gI zx1 2104 = gI zm1 2) (c2 : gF zx1 8 = gF zm1 4 ∧ gF zx1 9 = gF zm1 5) (c3 : ∀ t : Nat, t < 24 → gF zx1 11 t = sm (fun o => gF zm1 5 (24 * o + t)) (gI zm1 8).toNatClampNeg) (c4 : (gI zm 8).toInt ≤ (gI zm1 8).toInt) : XJ zx1 zm1 := by
  obtain ⟨_, de, rq, ⟨_, wn, pl, pn, _⟩, ⟨se, _, _, px, hs, hb⟩⟩ := h
  have e12 := om.1 12 (mI _ (by decide))
  have e11 := om.2 11 (mF _ (by decide))
  have eb := om.2 12 (mF _ (by decide))
  have e22 := om.1 22 (mI _ (by decide))
  have e14 := om.2 14 (mF _ (by decide))
  have e15 := om.2 15 (mF _ (by decide))
  have e16 := om.2 16 (mF _ (by decide))
  have e17 := om.2 17 (mF _ (by decide))
  have de2 : DEq zx1 zm1 := DEq_m (DEq_x de (ox.1 3402 (xI _ (by decide)))) e22 e14 e15
  have rq2 : RQ zx1 zm1 := RQ_m (RQ_x rq (ox.2 35 (xF _ (by decide))) (ox.2 36 (xF _ (by decide)))) e22 e14 e15 e16 e17
  obtain ⟨⟨s1, _, _, _⟩, ⟨a14, a15, a16, a17, a18⟩, _, _, s5⟩ := se
  refine ⟨fr, de2, rq2, ⟨bb, ?_, ?_, ?_, bz⟩, ⟨⟨⟨?_, c1⟩, ⟨?_, ?_, ?_, ?_, ?_⟩, c2, c3, fun j hj => ?_⟩, RE_of rq2 de2 td bb.2, td, PX_m2 px ox (xI _ (by decide)) (fun x hx => xF x (by revert x; decide)), fun o ho => ?_, fun o ho hz => ?_⟩⟩
  · rw [om.2 7 (mF _ (by decide)), om.2 8 (mF _ (by decide))]; exact wn
  · unfold PLB; rw [e12, e11, eb]; exact pl
  · rw [e12, e11, eb, om.1 2 (mI _ (by decide))]; exact pn
  · rw [ox.1 1308 (xI _ (by decide)), e12]; exact s1
  · rw [ox.2 14 (xF _ (by decide)), om.2 6 (mF _ (by decide))]; exact a14
  · rw [ox.2 15 (xF _ (by decide)), om.2 7 (mF _ (by decide))]; exact a15
  · rw [ox.2 16 (xF _ (by decide)), om.2 8 (mF _ (by decide))]; exact a16
  · rw [ox.2 17 (xF _ (by decide)), om.2 9 (mF _ (by decide))]; exact a17
  · rw [ox.2 18 (xF _ (by decide)), om.2 10 (mF _ (by decide))]; exact a18
  · rw [e12] at hj
    rw [om.2 6 (mF _ (by decide))]
    have := s5 j hj
    omega
  · rw [e12] at ho
    rw [ox.2 19 (xF _ (by decide)), e11]; exact hs o ho
  · rw [e12] at ho
    rw [e11] at hz
    rw [ox.2 20 (xF _ (by decide)), eb]; exact hb o ho hz
theorem XJ_home {zx zx1 zm zm1 : St} {b1 : Int32} (h : XJ zx zm) (tm : TM zm) (ox : Same [8, 705] [8] zx zx1) (om : Same [0, 1, 8] [4] zm zm1) (n1 : gI zx1 705 = gI zx 705 + 1) (m1 : gI zm1 8 = gI zm 8 + 1) (a8 : gF zx1 8 = upd (gF zx 8) (gI zx 705).toNatClampNeg b1) (a4 : gF zm1 4 = upd (gF zm 4) (gI zm 8).toNatClampNeg b1) (h4 : (gI zm 8).toInt < 4) : XJ zx1 zm1 := by
  have f8 : 0 ≤ (gI zm 8).toInt ∧ (gI zm 8).toInt ≤ 4 := tm.1 8
  have c8 := clampN f8.1
  have i1 : (gI zm1 8).toInt = (gI zm 8).toInt + 1 := by rw [m1]; exact a_add rfl rfl (by omega) (by omega)
  have c81 := clampN (x := gI zm1 8) (by omega)
  obtain ⟨fr, _, _, ⟨bb, _, _, _, bz⟩, ⟨se, _, td, _, _, _⟩⟩ := id h
  refine XJ_w h ox om (by decide) (by decide) (by decide) (by decide) (FR_m fr om (by decide) (by decide)) (BB_m bb om (by decide) (by decide)) (fun i hi => ?_) (TD_m (TD_mv td ox (by decide)) om (by decide) (by decide) (by decide) (by decide) (by decide) (by decide)) ⟨?_, ?_, ?_⟩ ⟨?_, ?_⟩ (fun t ht => ?_) (by omega)
  · rw [om.2 5 (by decide)]; exact bz i (by omega)
  · rw [n1, m1, se.1.2.1]
  · rw [ox.1 706 (by decide), om.1 11 (by decide)]; exact se.1.2.2.1
  · rw [ox.1 2104 (by decide), om.1 2 (by decide)]; exact se.1.2.2.2
  · rw [a8, a4, se.1.2.1, se.2.2.1.1]
  · rw [ox.2 9 (by decide), om.2 5 (by decide)]; exact se.2.2.1.2
  · rw [ox.2 11 (by decide), om.2 5 (by decide), show (gI zm1 8).toNatClampNeg = (gI zm 8).toNatClampNeg + 1 by omega]
    show _ = sm (fun o => gF zm 5 (24 * o + t)) (gI zm 8).toNatClampNeg + gF zm 5 (24 * (gI zm 8).toNatClampNeg + t)
    rw [bz _ (by omega), Int32.add_zero]
    exact se.2.2.2.1 t ht
theorem XJ_cable {zx zx1 zm zm1 : St} {b1 : Int32} (h : XJ zx zm) (ox : Same [8, 706] [] zx zx1) (om : Same [0, 1, 11] [] zm zm1) (n1 : gI zx1 706 = b1) (m1 : gI zm1 11 = b1) : XJ zx1 zm1 := by
  obtain ⟨fr, _, _, ⟨bb, _, _, _, bz⟩, ⟨se, _, td, _, _, _⟩⟩ := id h
  refine XJ_w h ox om (by decide) (by decide) (by decide) (by decide) (FR_m fr om (by decide) (by decide)) (BB_m bb om (by decide) (by decide)) (fun i hi => ?_) (TD_m (TD_mv td ox (by decide)) om (by decide) (by decide) (by decide) (by decide) (by decide) (by decide)) ⟨?_, ?_, ?_⟩ ⟨?_, ?_⟩ (fun t ht => ?_) (by rw [om.1 8 (by decide)]; exact Int.le_refl _)
  · rw [om.1 8 (by decide)] at hi
    rw [om.2 5 (by decide)]; exact bz i hi
  · rw [ox.1 705 (by decide), om.1 8 (by decide)]; exact se.1.2.1
  · rw [n1, m1]
  · rw [ox.1 2104 (by decide), om.1 2 (by decide)]; exact se.1.2.2.2
  · rw [ox.2 8 (by decide), om.2 4 (by decide)]; exact se.2.2.1.1
  · rw [ox.2 9 (by decide), om.2 5 (by decide)]; exact se.2.2.1.2
  · rw [ox.2 11 (by decide), om.2 5 (by decide), om.1 8 (by decide)]; exact se.2.2.2.1 t ht
theorem XJ_base {zx zx1 zm zm1 : St} {b1 b2 b3 : Int32} (h : XJ zx zm) (tm : TM zm) (ox : Same [8] [9, 11] zx zx1) (om : Same [0, 1] [5] zm zm1) (g : GB (gI zm 8).toInt b1 b2 b3) (a9 : gF zx1 9 = upd (gF zx 9) (24 * b1.toNatClampNeg + b2.toNatClampNeg) b3) (a11 : gF zx1 11 = upd (gF zx 11) b2.toNatClampNeg (gF zx 11 b2.toNatClampNeg + (b3 - gF zx 9 (24 * b1.toNatClampNeg + b2.toNatClampNeg)))) (a5 : gF zm1 5 = upd (gF zm 5) (24 * b1.toNatClampNeg + b2.toNatClampNeg) b3) : XJ zx1 zm1 := by
  obtain ⟨g1, g2, g3⟩ := g
  have f8 : 0 ≤ (gI zm 8).toInt ∧ (gI zm 8).toInt ≤ 4 := tm.1 8
  have c8 := clampN f8.1
  have c1 := clampN g3.1
  have c2 := clampN g1.1
  obtain ⟨fr, _, _, ⟨bb, _, _, _, bz⟩, ⟨se, _, td, _, _, _⟩⟩ := id h
  have bb2 : BB zm1 := by
    refine ⟨fun i => ?_, ?_⟩
    · rw [a5]
      by_cases e : i = 24 * b1.toNatClampNeg + b2.toNatClampNeg
      · rw [e, upd_at]; exact g2
      · rw [upd_ne e]; exact bb.1 i
    · have b := bb.2
      unfold BD at b ⊢
      rw [om.1 7 (by decide), om.1 12 (by decide), om.2 2 (by decide), om.2 9 (by decide), om.2 10 (by decide)]
      exact b
  refine XJ_w h ox om (by decide) (by decide) (by decide) (by decide) (FR_m fr om (by decide) (by decide)) bb2 (fun i hi => ?_) (TD_m (TD_mv td ox (by decide)) om (by decide) (by decide) (by decide) (by decide) (by decide) (by decide)) ⟨?_, ?_, ?_⟩ ⟨?_, ?_⟩ (fun t ht => ?_) (by rw [om.1 8 (by decide)]; exact Int.le_refl _)
  · rw [om.1 8 (by decide)] at hi
    rw [a5, upd_ne (by omega)]; exact bz i hi
  · rw [ox.1 705 (by decide), om.1 8 (by decide)]; exact se.1.2.1
  · rw [ox.1 706 (by decide), om.1 11 (by decide)]; exact se.1.2.2.1
  · rw [ox.1 2104 (by decide), om.1 2 (by decide)]; exact se.1.2.2.2
  · rw [ox.2 8 (by decide), om.2 4 (by decide)]; exact se.2.2.1.1
  · rw [a9, a5, se.2.2.1.2]
  · rw [a11, a5, om.1 8 (by decide), se.2.2.1.2]
    by_cases e : t = b2.toNatClampNeg
    · rw [e, upd_at, se.2.2.2.1 b2.toNatClampNeg (by omega)]
      refine (sm_upd (k := b1.toNatClampNeg) (by omega) (fun i hi hne => ?_) ?_).symm
      · rw [upd_ne (by omega)]
      · rw [upd_at, Int32.add_comm, Int32.sub_add_cancel]
    · rw [upd_ne e, se.2.2.2.1 t ht]
      exact sm_congr (fun i hi => by rw [upd_ne (by omega)])
theorem prF_up {r1 r2 r3 : Nat → Int32} {pl b1 b2 p1 p2 p3 : Int32} {n : Nat} : ∀ m, m ≤ n → prF (upd r1 n p1) (upd r2 n p2) (upd r3 n p3) pl b1 b2 m = prF r1 r2 r3 pl b1 b2 m := by
  intro m
  induction m with
  | zero => intro _; rfl
  | succ m ih =>
    intro hm
    show (if upd r1 n p1 m = b1 then (if b2 < upd r3 n p3 m then prF (upd r1 n p1) (upd r2 n p2) (upd r3 n p3) pl b1 b2 m else upd r2 n p2 m) else prF (upd r1 n p1) (upd r2 n p2) (upd r3 n p3) pl b1 b2 m) = (if r1 m = b1 then (if b2 < r3 m then prF r1 r2 r3 pl b1 b2 m else r2 m) else prF r1 r2 r3 pl b1 b2 m)
    rw [upd_ne (by omega), upd_ne (by omega), upd_ne (by omega), ih (by omega)]
theorem XJ_price {zx zx1 zm zm1 : St} {b1 b2 b3 : Int32} (h : XJ zx zm) (tm : TM zm) (ox : Same [8, 105] [2, 3, 4, 5] zx zx1) (om : Same [0, 1, 3, 21] [1, 2, 3] zm zm1) (g : GP (gI zm 3).toInt b1 b2 b3) (n3 : (gI zm1 3).toInt = (gI zm 3).toInt + 1) (z21 : gI zm1 21 = 0) (m1 : gF zm1 1 = upd (gF zm 1) (gI zm 3).toNatClampNeg b1) (m2 : gF zm1 2 = upd (gF zm 2) (gI zm 3).toNatClampNeg b2) (m3 : gF zm1 3 = upd (gF zm 3) (gI zm 3).toNatClampNeg b3) (u1 : gI zx 2104 < b3 → gF zx1 5 = gF zx 5) (u2 : ¬ gI zx 2104 < b3 → gF zx1 5 = upd (gF zx 5) b1.toNatClampNeg b2) : XJ zx1 zm1 := by
  have f3 : 0 ≤ (gI zm 3).toInt ∧ (gI zm 3).toInt ≤ 400 := tm.1 3
  have c3 := clampN f3.1
  have c31 := clampN (x := gI zm1 3) (by omega)
  have cb := clampN g.1.1
  obtain ⟨fr, _, _, ⟨bb, _, _, _, bz⟩, ⟨se, _, td, _, _, _⟩⟩ := id h
  have bb2 : BB zm1 := by
    refine ⟨fun i => ?_, ?_⟩
    · rw [om.2 5 (by decide)]; exact bb.1 i
    · obtain ⟨d1, d2, d3⟩ := bb.2
      refine ⟨?_, ?_, fun i => ?_⟩
      · rw [om.1 12 (by decide), om.2 9 (by decide), om.2 10 (by decide)]; exact d1
      · rw [om.1 7 (by decide)]; exact d2
      · rw [m2]
        by_cases e : i = (gI zm 3).toNatClampNeg
        · rw [e, upd_at]; exact g.2.1
        · rw [upd_ne e]; exact d3 i
  have td2 : TD zx1 zm1 := by
    intro t ht
    show _ = prF (gF zm1 1) (gF zm1 2) (gF zm1 3) (gI zm1 7) (nI t) (gI zm1 2) (gI zm1 3).toNatClampNeg
    rw [m1, m2, m3, om.1 7 (by decide), om.1 2 (by decide), show (gI zm1 3).toNatClampNeg = (gI zm 3).toNatClampNeg + 1 by omega]
    show _ = (if upd (gF zm 1) (gI zm 3).toNatClampNeg b1 (gI zm 3).toNatClampNeg = nI t then (if gI zm 2 < upd (gF zm 3) (gI zm 3).toNatClampNeg b3 (gI zm 3).toNatClampNeg then prF (upd (gF zm 1) (gI zm 3).toNatClampNeg b1) (upd (gF zm 2) (gI zm 3).toNatClampNeg b2) (upd (gF zm 3) (gI zm 3).toNatClampNeg b3) (gI zm 7) (nI t) (gI zm 2) (gI zm 3).toNatClampNeg else upd (gF zm 2) (gI zm 3).toNatClampNeg b2 (gI zm 3).toNatClampNeg) else prF (upd (gF zm 1) (gI zm 3).toNatClampNeg b1) (upd (gF zm 2) (gI zm 3).toNatClampNeg b2) (upd (gF zm 3) (gI zm 3).toNatClampNeg b3) (gI zm 7) (nI t) (gI zm 2) (gI zm 3).toNatClampNeg)
    rw [upd_at, upd_at, upd_at, prF_up _ (Nat.le_refl _), ← se.1.2.2.2]
    have old : gF zx 5 t = prF (gF zm 1) (gF zm 2) (gF zm 3) (gI zm 7) (nI t) (gI zx 2104) (gI zm 3).toNatClampNeg := by rw [se.1.2.2.2]; exact td t ht
    by_cases e : b1 = nI t
    · have e' : t = b1.toNatClampNeg := by rw [e, nI_clamp (by omega)]
      rw [if_pos e]
      by_cases k : gI zx 2104 < b3
      · rw [if_pos k, u1 k]; exact old
      · rw [if_neg k, u2 k, ← e', upd_at]
    · have e' : t ≠ b1.toNatClampNeg := fun q => e (by rw [q]; exact nI_cl g.1.1)
      rw [if_neg e]
      by_cases k : gI zx 2104 < b3
      · rw [u1 k]; exact old
      · rw [u2 k, upd_ne e']; exact old
  refine XJ_w h ox om (by decide) (by decide) (by decide) (by decide) (fun q => absurd z21 q) bb2 (fun i hi => ?_) td2 ⟨?_, ?_, ?_⟩ ⟨?_, ?_⟩ (fun t ht => ?_) (by rw [om.1 8 (by decide)]; exact Int.le_refl _)
  · rw [om.1 8 (by decide)] at hi
    rw [om.2 5 (by decide)]; exact bz i hi
  · rw [ox.1 705 (by decide), om.1 8 (by decide)]; exact se.1.2.1
  · rw [ox.1 706 (by decide), om.1 11 (by decide)]; exact se.1.2.2.1
  · rw [ox.1 2104 (by decide), om.1 2 (by decide)]; exact se.1.2.2.2
  · rw [ox.2 8 (by decide), om.2 4 (by decide)]; exact se.2.2.1.1
  · rw [ox.2 9 (by decide), om.2 5 (by decide)]; exact se.2.2.1.2
  · rw [ox.2 11 (by decide), om.2 5 (by decide), om.1 8 (by decide)]; exact se.2.2.2.1 t ht
theorem XJ_plain {zx zx1 zm zm1 : St} {b1 : Int32} (h : XJ zx zm) (ox : Same [8, 106] [5] zx zx1) (om : Same [0, 1, 7, 21] [] zm zm1) (g : GL b1) (m7 : gI zm1 7 = b1) (z21 : gI zm1 21 = 0) (r1 : gF zx 2 = gF zm 1) (r2 : gF zx 3 = gF zm 2) (r3 : gF zx 4 = gF zm 3) (r4 : gI zx 105 = gI zm 3) (hp : ∀ t : Nat, t < 168 → gF zx1 5 t = prF (gF zx 2) (gF zx 3) (gF zx 4) b1 (nI t) (gI zx 2104) (gI zx 105).toNatClampNeg) : XJ zx1 zm1 := by
  obtain ⟨fr, _, _, ⟨bb, _, _, _, bz⟩, ⟨se, _, td, _, _, _⟩⟩ := id h
  have bb2 : BB zm1 := by
    refine ⟨fun i => ?_, ?_⟩
    · rw [om.2 5 (by decide)]; exact bb.1 i
    · obtain ⟨d1, d2, d3⟩ := bb.2
      refine ⟨?_, ?_, fun i => ?_⟩
      · rw [om.1 12 (by decide), om.2 9 (by decide), om.2 10 (by decide)]; exact d1
      · rw [m7]; exact g
      · rw [om.2 2 (by decide)]; exact d3 i
  have td2 : TD zx1 zm1 := by
    intro t ht
    show _ = prF (gF zm1 1) (gF zm1 2) (gF zm1 3) (gI zm1 7) (nI t) (gI zm1 2) (gI zm1 3).toNatClampNeg
    rw [hp t ht, r1, r2, r3, r4, se.1.2.2.2, m7, om.2 1 (by decide), om.2 2 (by decide), om.2 3 (by decide), om.1 2 (by decide), om.1 3 (by decide)]
  refine XJ_w h ox om (by decide) (by decide) (by decide) (by decide) (fun q => absurd z21 q) bb2 (fun i hi => ?_) td2 ⟨?_, ?_, ?_⟩ ⟨?_, ?_⟩ (fun t ht => ?_) (by rw [om.1 8 (by decide)]; exact Int.le_refl _)
  · rw [om.1 8 (by decide)] at hi
    rw [om.2 5 (by decide)]; exact bz i hi
  · rw [ox.1 705 (by decide), om.1 8 (by decide)]; exact se.1.2.1
  · rw [ox.1 706 (by decide), om.1 11 (by decide)]; exact se.1.2.2.1
  · rw [ox.1 2104 (by decide), om.1 2 (by decide)]; exact se.1.2.2.2
  · rw [ox.2 8 (by decide), om.2 4 (by decide)]; exact se.2.2.1.1
  · rw [ox.2 9 (by decide), om.2 5 (by decide)]; exact se.2.2.1.2
  · rw [ox.2 11 (by decide), om.2 5 (by decide), om.1 8 (by decide)]; exact se.2.2.2.1 t ht
theorem XJ_go {zx zx1 zm zm1 : St} {b1 : Int32} (h : XJ zx zm) (tm : TM zm) (ox : Same [8, 2104] [5, 19] zx zx1) (om : Same [0, 1, 2, 21] [11] zm zm1) (g : GG (gI zm 2).toInt b1) (n1 : gI zx1 2104 = gI zx 2104 + b1) (m2 : gI zm1 2 = gI zm 2 + b1) (z21 : gI zm1 21 = 0) (r1 : gF zx 2 = gF zm 1) (r2 : gF zx 3 = gF zm 2) (r3 : gF zx 4 = gF zm 3) (r4 : gI zx 105 = gI zm 3) (r5 : gI zx 106 = gI zm 7) (a19 : ∀ o : Nat, (o : Int) < (gI zx 1308).toInt → gF zx1 19 o = dN (gF zx 19) (gF zx 20) ((gI zx 2104).toInt + b1.toInt) o) (a11 : ∀ o : Nat, (o : Int) < (gI zm 12).toInt → gF zm1 11 o = dN (gF zm 11) (gF zm 12) ((gI zm 2).toInt + b1.toInt) o) (hp : ∀ t : Nat, t < 168 → gF zx1 5 t = prF (gF zx 2) (gF zx 3) (gF zx 4) (gI zx 106) (nI t) (gI zx 2104 + b1) (gI zx 105).toNatClampNeg) : XJ zx1 zm1 := by
  have f12 : 0 ≤ (gI zm 12).toInt ∧ (gI zm 12).toInt ≤ 16 := tm.1 12
  have c12 := clampN f12.1
  have f2 : 0 ≤ (gI zm 2).toInt ∧ (gI zm 2).toInt ≤ 167 := tm.1 2
  obtain ⟨fr, de, rq, ⟨bb, wn, pl, pn, bz⟩, ⟨se, _, td, px, hs, hb⟩⟩ := id h
  have i2 : (gI zm1 2).toInt = (gI zm 2).toInt + b1.toInt := by
    have := g.1
    have := g.2
    rw [m2]; exact a_add rfl rfl (by omega) (by omega)
  have e12 := om.1 12 (by decide)
  have eb := om.2 12 (by decide)
  have q1308 : gI zx 1308 = gI zm 12 := se.1.1
  have q2 : gI zx 2104 = gI zm 2 := se.1.2.2.2
  rw [q1308, q2] at a19
  have dd : ∀ o : Nat, (o : Int) < (gI zm 12).toInt → gF zx1 19 o = gF zm1 11 o := by
    intro o ho
    rw [a19 o ho, a11 o ho]
    unfold dN
    rw [hs o ho]
    by_cases c : gF zm 11 o = 1
    · rw [hb o ho (by rw [c]; decide)]
    · rw [if_neg (fun q => c q.1), if_neg (fun q => c q.1)]
  have bb2 : BB zm1 := BB_m bb om (by decide) (by decide)
  have td2 : TD zx1 zm1 := by
    intro t ht
    show _ = prF (gF zm1 1) (gF zm1 2) (gF zm1 3) (gI zm1 7) (nI t) (gI zm1 2) (gI zm1 3).toNatClampNeg
    rw [hp t ht, r1, r2, r3, r4, r5, q2, m2, om.2 1 (by decide), om.2 2 (by decide), om.2 3 (by decide), om.1 7 (by decide), om.1 3 (by decide)]
  have de2 : DEq zx1 zm1 := DEq_m (DEq_x de (ox.1 3402 (by decide))) (om.1 22 (by decide)) (om.2 14 (by decide)) (om.2 15 (by decide))
  have rq2 : RQ zx1 zm1 := RQ_m (RQ_x rq (ox.2 35 (by decide)) (ox.2 36 (by decide))) (om.1 22 (by decide)) (om.2 14 (by decide)) (om.2 15 (by decide)) (om.2 16 (by decide)) (om.2 17 (by decide))
  have px2 : PX zx1 := by
    have p : PE zx (gI zx 1308).toNatClampNeg (gF zx 14) (gF zx 17) (gF zx 18) (gF zx 19) (gF zx 20) := px
    have p2 := PE_nz (st' := gF zx1 19) p (by rw [q1308]; omega) (fun o ho => by rw [q1308] at ho; rw [a19 o (by omega)]; exact dN_z)
    unfold PX
    rw [ox.1 1308 (by decide), ox.2 14 (by decide), ox.2 17 (by decide), ox.2 18 (by decide), ox.2 20 (by decide)]
    unfold PE at p2 ⊢
    rw [ox.2 10 (by decide), ox.2 12 (by decide)]
    exact p2
  refine ⟨fun q => absurd z21 q, de2, rq2, ⟨bb2, ?_, fun o ho hz => ?_, fun o ho hz => ?_, ?_⟩, ⟨?_, RE_of rq2 de2 td2 bb2.2, td2, px2, fun o ho => dd o (by rw [← e12]; exact ho), fun o ho hz => ?_⟩⟩
  · rw [om.2 7 (by decide), om.2 8 (by decide)]; exact wn
  · rw [e12] at ho
    rw [a11 o ho] at hz
    rw [eb]
    exact pl o ho (fun q => hz (dN_z.mpr q))
  · rw [e12] at ho
    rw [a11 o ho] at hz
    rw [eb, i2]
    unfold dN at hz
    by_cases c : gF zm 11 o = 1 ∧ (gF zm 12 o).toInt < (gI zm 2).toInt + b1.toInt
    · rw [if_pos c] at hz; exact absurd hz (by decide)
    · rw [if_neg c] at hz
      have : ¬ (gF zm 12 o).toInt < (gI zm 2).toInt + b1.toInt := fun q => c ⟨hz, q⟩
      omega
  · rw [om.1 8 (by decide), om.2 5 (by decide)]; exact bz
  · unfold SE
    rw [ox.1 1308 (by decide), ox.1 705 (by decide), ox.1 706 (by decide), n1, m2, e12, om.1 8 (by decide), om.1 11 (by decide), ox.2 14 (by decide), ox.2 15 (by decide), ox.2 16 (by decide), ox.2 17 (by decide), ox.2 18 (by decide), ox.2 8 (by decide), ox.2 9 (by decide), ox.2 11 (by decide), om.2 4 (by decide), om.2 5 (by decide), om.2 6 (by decide), om.2 7 (by decide), om.2 8 (by decide), om.2 9 (by decide), om.2 10 (by decide)]
    exact ⟨⟨se.1.1, se.1.2.1, se.1.2.2.1, by rw [q2]⟩, se.2⟩
  · rw [e12] at ho
    rw [a11 o ho] at hz
    rw [ox.2 20 (by decide), eb]
    exact hb o ho (fun q => hz (dN_z.mpr q))
theorem N4_lt {f : Nat → Int32} {n i : Nat} {a b c d : Int32} (h : i < 4 * n) : N4 f n a b c d i = f i := by
  unfold N4
  rw [upd_ne (by omega), upd_ne (by omega), upd_ne (by omega), upd_ne (by omega)]
theorem N4_k {f : Nat → Int32} {n : Nat} {a b c d : Int32} : N4 f n a b c d (4 * n) = a ∧ N4 f n a b c d (4 * n + 1) = b ∧ N4 f n a b c d (4 * n + 2) = c ∧ N4 f n a b c d (4 * n + 3) = d := by
  unfold N4
  refine ⟨?_, ?_, ?_, ?_⟩
  · rw [upd_ne (by omega), upd_ne (by omega), upd_ne (by omega), upd_at]
  · rw [upd_ne (by omega), upd_ne (by omega), upd_at]
  · rw [upd_ne (by omega), upd_at]
  · rw [upd_at]
/-- one open job more draws nothing -/
theorem drV_up {r9 r10 st bg : Nat → Int32} {n j : Nat} {t v9 v11 v12 a b c d : Int32} (hj : j < n) (hn : n ≤ 16) (h9 : 0 ≤ (r9 j).toInt ∧ (r9 j).toInt ≤ 4) : drV (upd r9 n v9) (N4 r10 n a b c d) (upd st n v11) (upd bg n v12) (nI j) t = drV r9 r10 st bg (nI j) t := by
  have ij : (nI j).toInt = (j : Int) := nI_toInt (by omega)
  unfold drV
  rw [nI_clamp (by omega), upd_ne (by omega), upd_ne (by omega), upd_ne (by omega)]
  by_cases e : st j = 0
  · rw [if_pos e, if_pos e]
  · rw [if_neg e, if_neg e]
    by_cases k : 0 ≤ (t - bg j).toInt ∧ (t - bg j).toInt ≤ (r9 j).toInt - 1
    · rw [if_pos k, if_pos k]
      have ia : ((4 : Int32) * nI j + (t - bg j)).toInt = 4 * (j : Int) + (t - bg j).toInt := a_add (a_mul (show (4 : Int32).toInt = 4 from rfl) ij (by omega) (by omega)) rfl (by omega) (by omega)
      have ca := clampN (x := (4 : Int32) * nI j + (t - bg j)) (by omega)
      exact N4_lt (by omega)
    · rw [if_neg k, if_neg k]
set_option maxHeartbeats 1000000 in
theorem XJ_job {zx zx1 zm zm1 : St} {b1 b2 b3 b4 b5 b6 b7 b8 : Int32} (h : XJ zx zm) (tm : TM zm) (ox : Same [8, 1308] [14, 15, 16, 17, 18, 19, 20] zx zx1) (om : Same [0, 1, 12] [6, 7, 8, 9, 10, 11, 12] zm zm1) (g : GQ (gI zm 8).toInt (gI zm 12).toInt b1 b2 b3 b4 b5 b6 b7 b8) (n1 : gI zx1 1308 = gI zx 1308 + 1) (a14 : gF zx1 14 = upd (gF zx 14) (gI zx 1308).toNatClampNeg b1) (a15 : gF zx1 15 = upd (gF zx 15) (gI zx 1308).toNatClampNeg b2) (a16 : gF zx1 16 = upd (gF zx 16) (gI zx 1308).toNatClampNeg b3) (a17 : gF zx1 17 = upd (gF zx 17) (gI zx 1308).toNatClampNeg b4) (a18 : gF zx1 18 = N4 (gF zx 18) (gI zx 1308).toNatClampNeg b5 b6 b7 b8) (a19 : gF zx1 19 = upd (gF zx 19) (gI zx 1308).toNatClampNeg 0) (a20 : gF zx1 20 = upd (gF zx 20) (gI zx 1308).toNatClampNeg (-1)) (m12 : gI zm1 12 = gI zm 12 + 1) (a6 : gF zm1 6 = upd (gF zm 6) (gI zm 12).toNatClampNeg b1) (a7 : gF zm1 7 = upd (gF zm 7) (gI zm 12).toNatClampNeg b2) (a8 : gF zm1 8 = upd (gF zm 8) (gI zm 12).toNatClampNeg b3) (a9 : gF zm1 9 = upd (gF zm 9) (gI zm 12).toNatClampNeg b4) (a10 : gF zm1 10 = N4 (gF zm 10) (gI zm 12).toNatClampNeg b5 b6 b7 b8) (a11 : gF zm1 11 = upd (gF zm 11) (gI zm 12).toNatClampNeg 0) (a12 : gF zm1 12 = upd (gF zm 12) (gI zm 12).toNatClampNeg (-1)) : XJ zx1 zm1 := by
  have f12 : 0 ≤ (gI zm 12).toInt ∧ (gI zm 12).toInt ≤ 16 := tm.1 12
  have c12 := clampN f12.1
  have f9 : ∀ j, 0 ≤ (gF zm 9 j).toInt ∧ (gF zm 9 j).toInt ≤ 4 := fun j => tm.2 9 j
  obtain ⟨gw, gh, gn⟩ := g
  obtain ⟨w2, w3, w23, wd, w4, w5, w6, w7, w8⟩ := id gw
  have i12 : (gI zm1 12).toInt = (gI zm 12).toInt + 1 := by rw [m12]; exact a_add rfl rfl (by omega) (by omega)
  have c121 := clampN (x := gI zm1 12) (by omega)
  have ec : (gI zm1 12).toNatClampNeg = (gI zm 12).toNatClampNeg + 1 := by omega
  obtain ⟨fr, de, rq, ⟨bb, wn, pl, pn, bz⟩, ⟨se, _, td, px, hs, hb⟩⟩ := id h
  have q1308 : gI zx 1308 = gI zm 12 := se.1.1
  obtain ⟨_, ⟨e14, e15, e16, e17, e18⟩, ⟨e8, e9⟩, sD, sE⟩ := id se
  rw [q1308] at n1 a14 a15 a16 a17 a18 a19 a20
  have n4 := N4_k (f := gF zm 10) (n := (gI zm 12).toNatClampNeg) (a := b5) (b := b6) (c := b7) (d := b8)
  have bb2 : BB zm1 := by
    refine ⟨fun i => ?_, ?_⟩
    · rw [om.2 5 (by decide)]; exact bb.1 i
    · obtain ⟨d1, d2, d3⟩ := bb.2
      refine ⟨fun j k hj hk => ?_, ?_, fun i => ?_⟩
      · rw [a10]
        rw [a9] at hk
        by_cases e : j = (gI zm 12).toNatClampNeg
        · rw [e, upd_at] at hk
          rw [e]
          have k4 : k = 0 ∨ k = 1 ∨ k = 2 ∨ k = 3 := by omega
          rcases k4 with q | q | q | q
          · rw [q, Nat.add_zero, n4.1]; exact w5
          · rw [q, n4.2.1]; exact w6 (by omega)
          · rw [q, n4.2.2.1]; exact w7 (by omega)
          · rw [q, n4.2.2.2]; exact w8 (by omega)
        · rw [upd_ne e] at hk
          have := f9 j
          rw [N4_lt (by omega)]
          exact d1 j k (by omega) hk
      · rw [om.1 7 (by decide)]; exact d2
      · rw [om.2 2 (by decide)]; exact d3 i
  have td2 : TD zx1 zm1 := TD_m (TD_mv td ox (by decide)) om (by decide) (by decide) (by decide) (by decide) (by decide) (by decide)
  have de2 : DEq zx1 zm1 := DEq_m (DEq_x de (ox.1 3402 (by decide))) (om.1 22 (by decide)) (om.2 14 (by decide)) (om.2 15 (by decide))
  have rq2 : RQ zx1 zm1 := RQ_m (RQ_x rq (ox.2 35 (by decide)) (ox.2 36 (by decide))) (om.1 22 (by decide)) (om.2 14 (by decide)) (om.2 15 (by decide)) (om.2 16 (by decide)) (om.2 17 (by decide))
  have px2 : PX zx1 := by
    have p : PE zx (gI zx 1308).toNatClampNeg (gF zx 14) (gF zx 17) (gF zx 18) (gF zx 19) (gF zx 20) := px
    rw [q1308] at p
    have h9x : ∀ j, 0 ≤ (gF zx 17 j).toInt ∧ (gF zx 17 j).toInt ≤ 4 := fun j => by rw [e17]; exact f9 j
    have d0 : ∀ t : Int32, drV (upd (gF zx 17) (gI zm 12).toNatClampNeg b4) (N4 (gF zx 18) (gI zm 12).toNatClampNeg b5 b6 b7 b8) (upd (gF zx 19) (gI zm 12).toNatClampNeg 0) (upd (gF zx 20) (gI zm 12).toNatClampNeg (-1)) (nI (gI zm 12).toNatClampNeg) t = 0 := fun t => drV_0 (by omega) upd_at
    have nn : (gI zx1 1308).toNatClampNeg = (gI zm 12).toNatClampNeg + 1 := by
      rw [n1]
      have i : (gI zm 12 + (1 : Int32)).toInt = (gI zm 12).toInt + 1 := a_add rfl rfl (by omega) (by omega)
      have := clampN (x := gI zm 12 + (1 : Int32)) (by omega)
      omega
    unfold PX
    rw [nn, a14, a17, a18, a19, a20]
    refine ⟨fun hh t h1 h2 => ?_, fun t h2 => ?_⟩
    · rw [ox.2 10 (by decide), p.1 hh t h1 h2]
      show _ = sm (tH (upd (gF zx 14) (gI zm 12).toNatClampNeg b1) (upd (gF zx 17) (gI zm 12).toNatClampNeg b4) (N4 (gF zx 18) (gI zm 12).toNatClampNeg b5 b6 b7 b8) (upd (gF zx 19) (gI zm 12).toNatClampNeg 0) (upd (gF zx 20) (gI zm 12).toNatClampNeg (-1)) (nI hh) (nI t)) (gI zm 12).toNatClampNeg + tH (upd (gF zx 14) (gI zm 12).toNatClampNeg b1) (upd (gF zx 17) (gI zm 12).toNatClampNeg b4) (N4 (gF zx 18) (gI zm 12).toNatClampNeg b5 b6 b7 b8) (upd (gF zx 19) (gI zm 12).toNatClampNeg 0) (upd (gF zx 20) (gI zm 12).toNatClampNeg (-1)) (nI hh) (nI t) (gI zm 12).toNatClampNeg
      have last : tH (upd (gF zx 14) (gI zm 12).toNatClampNeg b1) (upd (gF zx 17) (gI zm 12).toNatClampNeg b4) (N4 (gF zx 18) (gI zm 12).toNatClampNeg b5 b6 b7 b8) (upd (gF zx 19) (gI zm 12).toNatClampNeg 0) (upd (gF zx 20) (gI zm 12).toNatClampNeg (-1)) (nI hh) (nI t) (gI zm 12).toNatClampNeg = 0 := by
        unfold tH
        rw [d0]
        by_cases c : upd (gF zx 14) (gI zm 12).toNatClampNeg b1 (gI zm 12).toNatClampNeg = nI hh
        · rw [if_pos c]
        · rw [if_neg c]
      rw [last, Int32.add_zero]
      refine sm_congr (fun i hi => ?_)
      unfold tH
      rw [upd_ne (by omega), drV_up hi (by omega) (h9x i)]
    · rw [ox.2 12 (by decide), p.2 t h2]
      show _ = sm (fun j => drV (upd (gF zx 17) (gI zm 12).toNatClampNeg b4) (N4 (gF zx 18) (gI zm 12).toNatClampNeg b5 b6 b7 b8) (upd (gF zx 19) (gI zm 12).toNatClampNeg 0) (upd (gF zx 20) (gI zm 12).toNatClampNeg (-1)) (nI j) (nI t)) (gI zm 12).toNatClampNeg + drV (upd (gF zx 17) (gI zm 12).toNatClampNeg b4) (N4 (gF zx 18) (gI zm 12).toNatClampNeg b5 b6 b7 b8) (upd (gF zx 19) (gI zm 12).toNatClampNeg 0) (upd (gF zx 20) (gI zm 12).toNatClampNeg (-1)) (nI (gI zm 12).toNatClampNeg) (nI t)
      rw [d0, Int32.add_zero]
      exact sm_congr (fun i hi => (drV_up hi (by omega) (h9x i)).symm)
  refine ⟨FR_m fr om (by decide) (by decide), de2, rq2, ⟨bb2, fun j => ?_, fun o ho hz => ?_, fun o ho hz => ?_, ?_⟩, ⟨?_, RE_of rq2 de2 td2 bb2.2, td2, px2, fun o ho => ?_, fun o ho hz => ?_⟩⟩
  · rw [a7, a8]
    by_cases e : j = (gI zm 12).toNatClampNeg
    · rw [e, upd_at, upd_at]; omega
    · rw [upd_ne e, upd_ne e]; exact wn j
  · rw [a11] at hz
    by_cases e : o = (gI zm 12).toNatClampNeg
    · rw [e, upd_at] at hz; exact absurd rfl hz
    · rw [upd_ne e] at hz
      rw [a12, upd_ne e]; exact pl o (by omega) hz
  · rw [a11] at hz
    by_cases e : o = (gI zm 12).toNatClampNeg
    · rw [e, upd_at] at hz; exact absurd hz (by decide)
    · rw [upd_ne e] at hz
      rw [a12, upd_ne e, om.1 2 (by decide)]; exact pn o (by omega) hz
  · rw [om.1 8 (by decide), om.2 5 (by decide)]; exact bz
  · refine ⟨⟨by rw [n1, m12], ?_, ?_, ?_⟩, ⟨by rw [a14, a6, e14], by rw [a15, a7, e15], by rw [a16, a8, e16], by rw [a17, a9, e17], by rw [a18, a10, e18]⟩, ⟨?_, ?_⟩, fun t ht => ?_, fun j hj => ?_⟩
    · rw [ox.1 705 (by decide), om.1 8 (by decide)]; exact se.1.2.1
    · rw [ox.1 706 (by decide), om.1 11 (by decide)]; exact se.1.2.2.1
    · rw [ox.1 2104 (by decide), om.1 2 (by decide)]; exact se.1.2.2.2
    · rw [ox.2 8 (by decide), om.2 4 (by decide)]; exact e8
    · rw [ox.2 9 (by decide), om.2 5 (by decide)]; exact e9
    · rw [ox.2 11 (by decide), om.2 5 (by decide), om.1 8 (by decide)]; exact sD t ht
    · rw [a6, om.1 8 (by decide)]
      by_cases e : j = (gI zm 12).toNatClampNeg
      · rw [e, upd_at]; exact gh.2
      · rw [upd_ne e]; exact sE j (by omega)
  · rw [a19, a11]
    by_cases e : o = (gI zm 12).toNatClampNeg
    · rw [e, upd_at, upd_at]
    · rw [upd_ne e, upd_ne e]; exact hs o (by omega)
  · rw [a11] at hz
    by_cases e : o = (gI zm 12).toNatClampNeg
    · rw [e, upd_at] at hz; exact absurd rfl hz
    · rw [upd_ne e] at hz
      rw [a20, a12, upd_ne e, upd_ne e]; exact hb o (by omega) hz
theorem op0_1 {st : Nat → Int32} {o : Nat} : ¬ op0 st o = 1 := by
  unfold op0
  by_cases c : st o = 1
  · rw [if_pos c]; decide
  · rw [if_neg c]; exact c
theorem eP_now {zm : St} {st bg : Nat → Int32} (tm : TM zm) : ∀ (m o : Nat), (eP zm (op0 st) bg m).1 o = 1 → (gI zm 2).toInt ≤ ((eP zm (op0 st) bg m).2 o).toInt := by
  intro m
  induction m with
  | zero => intro o h; exact absurd h op0_1
  | succ m ih =>
    intro o h
    have f7 : 0 ≤ (gF zm 7 m).toInt ∧ (gF zm 7 m).toInt ≤ 167 := tm.2 7 _
    have f8 : 0 ≤ (gF zm 8 m).toInt ∧ (gF zm 8 m).toInt ≤ 167 := tm.2 8 _
    by_cases c : (eP zm (op0 st) bg m).1 m = 0 ∧ ¬ (chF zm (eP zm (op0 st) bg m).1 (eP zm (op0 st) bg m).2 m (wn zm m)).1 = -1
    · have e : eP zm (op0 st) bg (m + 1) = (upd (eP zm (op0 st) bg m).1 m 1, upd (eP zm (op0 st) bg m).2 m (chF zm (eP zm (op0 st) bg m).1 (eP zm (op0 st) bg m).2 m (wn zm m)).1) := pIf_t c
      rw [e] at h ⊢
      have h' : upd (eP zm (op0 st) bg m).1 m 1 o = 1 := h
      show (gI zm 2).toInt ≤ (upd (eP zm (op0 st) bg m).2 m (chF zm (eP zm (op0 st) bg m).1 (eP zm (op0 st) bg m).2 m (wn zm m)).1 o).toInt
      by_cases eo : o = m
      · rw [eo, upd_at]
        rcases chF_in (st := (eP zm (op0 st) bg m).1) (bg := (eP zm (op0 st) bg m).2) (j := m) f7 (wn zm m) (by unfold wn; omega) with q | ⟨t, ht1, ht2, ht3, _⟩
        · exact absurd q.1 c.2
        · rw [ht1, nI_toInt (by omega)]; exact ht3.1
      · rw [upd_ne eo] at h'
        rw [upd_ne eo]; exact ih o h'
    · have e : eP zm (op0 st) bg (m + 1) = eP zm (op0 st) bg m := pIf_f c
      rw [e] at h ⊢
      exact ih o h
theorem pS_now {zm : St} {st bg : Nat → Int32} {oj : Nat → Nat} {n : Nat} {b : Nat → Int32} (hr : Rise oj n) (hf : FeP zm (op0 st) bg oj n b) : ∀ o, pS (op0 st) oj n o = 1 → (gI zm 2).toInt ≤ (pG bg oj b n o).toInt := by
  intro o h
  by_cases c : ∃ l, l < n ∧ oj l = o
  · obtain ⟨l, h1, h2⟩ := c
    rw [← h2, pG_in hr n (Nat.le_refl _) h1]
    exact (hf l h1).1
  · rw [pS_out n (fun l hl e => c ⟨l, hl, e⟩)] at h
    exact absurd h op0_1
theorem WO9_now {zm : St} {st bg : Nat → Int32} {nj : Nat} {r : Int64} {st' bg' : Nat → Int32} (h : WO9 zm st bg nj r st' bg') (pn : ∀ o : Nat, (o : Int) < (gI zm 12).toInt → st o = 1 → (gI zm 2).toInt ≤ (bg o).toInt) : ∀ o : Nat, (o : Int) < (gI zm 12).toInt → st' o = 1 → (gI zm 2).toInt ≤ (bg' o).toInt := by
  rcases h with ⟨_, _, e1, e2⟩ | ⟨_, _, _, e1, e2⟩ | ⟨_, b, hb, _, e1, e2⟩
  · rw [e1, e2]; exact pn
  · rw [e1, e2]; exact pn
  · rw [e1, e2]
    exact fun o _ ho => pS_now (ojC_ok st nj).2.1 hb.1 o ho
/-- the rules have changed on both sides -/
theorem XJ_rules {zx zx1 zm zm1 : St} {I F I' F' : List Nat} (h : XJ zx zm) (ox : Same I F zx zx1) (om : Same I' F' zm zm1) (xI : ∀ x ∈ [1308, 705, 706, 2104], x ∉ I) (xF : ∀ x ∈ [5, 8, 9, 10, 11, 12, 14, 15, 16, 17, 18, 19, 20], x ∉ F) (mI : ∀ x ∈ [2, 3, 7, 8, 11, 12, 21], x ∉ I') (mF : ∀ x ∈ [1, 2, 3, 4, 5, 6, 7, 8, 9, 10, 11, 12, 13], x ∉ F') (de : DEq zx1 zm1) (rq : RQ zx1 zm1) : XJ zx1 zm1 := by
  obtain ⟨fr, _, _, ⟨bb, wn, pl, pn, bz⟩, ⟨se, _, td, px, hs, hb⟩⟩ := h
  have e12 := om.1 12 (mI _ (by decide))
  have e11 := om.2 11 (mF _ (by decide))
  have eb := om.2 12 (mF _ (by decide))
  have bb2 : BB zm1 := BB_m bb om (fun x hx => mI x (by revert x; decide)) (fun x hx => mF x (by revert x; decide))
  have td2 : TD zx1 zm1 := TD_m (TD_mv td ox (xF _ (by decide))) om (mI _ (by decide)) (mI _ (by decide)) (mI _ (by decide)) (mF _ (by decide)) (mF _ (by decide)) (mF _ (by decide))
  refine ⟨FR_m fr om (fun x hx => mI x (by revert x; decide)) (fun x hx => mF x (by revert x; decide)), de, rq, ⟨bb2, ?_, ?_, ?_, ?_⟩, ⟨SE_m (SE_mv se ox (xI _ (by decide)) (xI _ (by decide)) (xI _ (by decide)) (xI _ (by decide)) (xF _ (by decide)) (xF _ (by decide)) (xF _ (by decide)) (xF _ (by decide)) (xF _ (by decide)) (xF _ (by decide)) (xF _ (by decide)) (xF _ (by decide))) om (fun x hx => mI x (by revert x; decide)) (fun x hx => mF x (by revert x; decide)), RE_of rq de td2 bb2.2, td2, PX_m2 px ox (xI _ (by decide)) (fun x hx => xF x (by revert x; decide)), ?_, ?_⟩⟩
  · rw [om.2 7 (mF _ (by decide)), om.2 8 (mF _ (by decide))]; exact wn
  · unfold PLB; rw [e12, e11, eb]; exact pl
  · rw [e12, e11, eb, om.1 2 (mI _ (by decide))]; exact pn
  · rw [om.1 8 (mI _ (by decide)), om.2 5 (mF _ (by decide))]; exact bz
  · rw [e12, e11, ox.2 19 (xF _ (by decide))]; exact hs
  · rw [e12, e11, eb, ox.2 20 (xF _ (by decide))]; exact hb
