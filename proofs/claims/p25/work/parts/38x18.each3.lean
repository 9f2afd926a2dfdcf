-- ONE BY ONE, the reference
abbrev PI9 : List Nat := [0, 1, 21]
abbrev PF9 : List Nat := [11, 12, 13, 18, 19, 20, 23]
theorem PR_sp {z zz : St} {b1 b2 : Int32} (s : Same PI9 PF9 z zz) : PR zz b1 b2 = PR z b1 b2 := PR_same s (by decide) (by decide) (by decide) (by decide) (by decide)
theorem MBg_sp {z zz : St} {st bg : Nat → Int32} {j : Nat} {h : Int} (s : Same PI9 PF9 z zz) : MBg zz st bg j h ↔ MBg z st bg j h := by
  have eq : Qm zz = Qm z := by
    unfold Qm QR
    rw [s.1 22 (by decide), s.2 14 (by decide), s.2 15 (by decide), s.2 16 (by decide), s.2 17 (by decide)]
  have ed : Dm zz = Dm z := by
    unfold Dm PR
    rw [s.1 22 (by decide), s.1 2 (by decide), s.1 3 (by decide), s.1 7 (by decide), s.2 14 (by decide), s.2 15 (by decide), s.2 1 (by decide), s.2 2 (by decide), s.2 3 (by decide)]
  have eb : Bm zz = Bm z := by
    unfold Bm
    rw [s.1 22 (by decide), s.2 14 (by decide), s.2 15 (by decide), s.2 16 (by decide)]
  have ea : Ag zz st bg j = Ag z st bg j := by
    funext t
    unfold Ag
    rw [amG_sm, amG_sm, s.1 8 (by decide), s.1 12 (by decide), s.2 5 (by decide), s.2 6 (by decide), s.2 9 (by decide), s.2 10 (by decide)]
  have ef : Fg zz st bg j = Fg z st bg j := by
    funext t
    unfold Fg
    rw [s.1 12 (by decide), s.2 5 (by decide), s.2 6 (by decide), s.2 9 (by decide), s.2 10 (by decide)]
  unfold MBg TUg
  rw [eq, ed, eb, ea, ef, s.1 2 (by decide), s.1 11 (by decide), s.1 12 (by decide), s.2 4 (by decide), s.2 6 (by decide), s.2 7 (by decide), s.2 8 (by decide), s.2 9 (by decide), s.2 10 (by decide)]
theorem ctM_sp {z zz : St} {j t : Nat} (s : Same PI9 PF9 z zz) : ctM zz j t = ctM z j t := by
  have e : (fun t => PR zz (nI t) (gI zz 2)) = fun t => PR z (nI t) (gI z 2) := by
    funext t
    rw [PR_sp s, s.1 2 (by decide)]
  unfold ctM
  rw [e, s.2 9 (by decide), s.2 10 (by decide)]
/-- the reference's state zz holds the plan st, bg over what zm was told -/
def CM (zz zm : St) (st bg : Nat → Int32) : Prop := TM zz ∧ FR zz ∧ Same PI9 PF9 zm zz ∧ (∀ o : Nat, (o : Int) < (gI zm 12).toInt → gF zz 11 o = st o) ∧ (∀ o : Nat, (o : Int) < (gI zm 12).toInt → ¬ st o = 0 → gF zz 12 o = bg o) ∧ ∀ o : Nat, (o : Int) < (gI zm 12).toInt → ¬ st o = 0 → 0 ≤ (bg o).toInt ∧ (bg o).toInt ≤ 167
theorem CM_mb {b1 b2 : Int32} {zz zm : St} {st bg : Nat → Int32} {P : Int32 → St → Prop} (cm : CM zz zm st bg) (h0 : 0 ≤ b1.toInt) (hj : b1.toInt < (gI zm 12).toInt) (hk1 : MBg zm st bg b1.toNatClampNeg b2.toInt → ∀ z2 : St, CM z2 zm st bg → Same [21] [13] zz z2 → z2.2.2 = zz.2.2 → P 1 z2) (hk0 : ¬ MBg zm st bg b1.toNatClampNeg b2.toInt → ∀ z2 : St, CM z2 zm st bg → Same [21] [13] zz z2 → z2.2.2 = zz.2.2 → P 0 z2) : wp_X9_mayBegin b1 b2 zz P := by
  obtain ⟨tz, fz, sz, h11, h12, hb⟩ := id cm
  have f12 : 0 ≤ (gI zz 12).toInt ∧ (gI zz 12).toInt ≤ 16 := tz.1 12
  have q12 : gI zz 12 = gI zm 12 := sz.1 12 (by decide)
  have hmb : MBm zz b1.toNatClampNeg b2.toInt ↔ MBg zm st bg b1.toNatClampNeg b2.toInt := by
    rw [MBm_g, MBg_co tz (st := st) (bg := bg) (fun o ho => h11 o (by rw [← q12]; exact ho)) (fun o ho => h12 o (by rw [← q12]; exact ho)), MBg_sp sz]
  have hcm : ∀ z2 : St, TM z2 → Same [21] [13] zz z2 → FR z2 → CM z2 zm st bg := by
    intro z2 t2 s2 f2
    refine ⟨t2, f2, sz.tr s2 (by decide) (by decide), fun o ho => ?_, fun o ho hs => ?_, hb⟩
    · rw [s2.2 11 (by decide)]; exact h11 o ho
    · rw [s2.2 12 (by decide)]; exact h12 o ho hs
  refine v_X9_mayBegin b1 b2 zz P tz (by rw [q12] at f12; omega) fz (fun o ho hs => ?_) (fun mb z2 t2 s2 f2 l2 => hk1 (hmb.mp mb) z2 (hcm z2 t2 s2 f2) s2 l2) (fun mb z2 t2 s2 f2 l2 => hk0 (fun q => mb (hmb.mpr q)) z2 (hcm z2 t2 s2 f2) s2 l2)
  rw [q12] at ho
  rw [h11 o ho] at hs
  rw [h12 o ho hs]
  exact hb o ho hs
theorem cnt_up {st : Nat → Int32} {m : Nat} {v : Int32} : ∀ n, n ≤ m → cnt (upd st m v) 0 n = cnt st 0 n := fun n hn => cnt_co n (fun o ho => if_neg (by omega))
set_option maxHeartbeats 1000000 in
theorem v_X9_each (zm : St) (P : Int32 → St → Prop) (st bg : Nat → Int32) (tm : TM zm) (bd : ∀ j t : Nat, (j : Int) < (gI zm 12).toInt → -200000000 ≤ (ctM zm j t).toInt ∧ (ctM zm j t).toInt ≤ 200000000) (cm : CM zm zm st bg) (h3 : ∀ o : Nat, (o : Int) < (gI zm 12).toInt → st o = 0 ∨ st o = 1 ∨ st o = 2) (hk : ∀ (r : Int32) (z2 : St), CM z2 zm (eP zm (op0 st) bg (gI zm 12).toNatClampNeg).1 (eP zm (op0 st) bg (gI zm 12).toNatClampNeg).2 → r.toInt = (cnt (eP zm (op0 st) bg (gI zm 12).toNatClampNeg).1 0 (gI zm 12).toNatClampNeg : Int) → P r z2) : wp_X9_each zm P := by
  have f12 : 0 ≤ (gI zm 12).toInt ∧ (gI zm 12).toInt ≤ 16 := tm.1 12
  have c12 := clampN f12.1
  unfold wp_X9_each
  intro z1 e1
  have cm1 : CM z1 zm st bg := by
    refine ⟨by rw [e1]; exact Ty_wI tm trivial, ?_, Same.rf.i (by decide) e1, fun o ho => ?_, fun o ho hs => ?_, cm.2.2.2.2.2⟩
    · rw [e1]; exact cm.2.1
    · rw [e1]; exact cm.2.2.2.1 o ho
    · rw [e1]; exact cm.2.2.2.2.1 o ho hs
  intro K3 hK3
  have L1 : ∀ (n : Nat) (v2 : Int32) (z4 : St), 0 ≤ v2.toInt → v2.toInt ≤ (gI zm 12).toInt → CM z4 zm (opK st v2.toInt) bg → (16 - v2.toInt).toNat < n → K3 v2 z4 := by
    intro n
    induction n with
    | zero => intro v2 z4 _ _ _ q; omega
    | succ n ih =>
      intro v2 z4 g0 g1 cm4 gm
      have cv := clampN g0
      obtain ⟨t4, fr4, s4, a11, a12, ab⟩ := id cm4
      have r12 : gI z4 12 = gI zm 12 := s4.1 12 (by decide)
      refine hK3 v2 z4 ⟨fun c => ?_, fun c => ⟨vin rfl g0 (by have := i_nle rfl rfl c; rw [r12] at this; omega), ?_⟩⟩
      · rw [r12] at c
        have c' := i_le rfl rfl c
        have cm0 : CM z4 zm (op0 st) bg := by
          refine ⟨t4, fr4, s4, fun o ho => ?_, fun o ho hs => ?_, fun o ho hs => ?_⟩
          · rw [a11 o ho, opK_lt (by omega)]
          · exact a12 o ho (by rw [opK_lt (by omega)]; exact hs)
          · exact ab o ho (by rw [opK_lt (by omega)]; exact hs)
        intro K8 hK8
        have L8 : ∀ (m : Nat) (v6 v7 : Int32) (z9 : St), 0 ≤ v7.toInt → v7.toInt ≤ (gI zm 12).toInt → CM z9 zm (eP zm (op0 st) bg v7.toNatClampNeg).1 (eP zm (op0 st) bg v7.toNatClampNeg).2 → v6.toInt = (cnt (eP zm (op0 st) bg v7.toNatClampNeg).1 0 v7.toNatClampNeg : Int) → (16 - v7.toInt).toNat < m → K8 v6 v7 z9 := by
          intro m
          induction m with
          | zero => intro v6 v7 z9 _ _ _ _ q; omega
          | succ m ih8 =>
            intro v6 v7 z9 k0 k1 cm9 h6 km
            have cv7 := clampN k0
            have hcl := cnt_le (eP zm (op0 st) bg v7.toNatClampNeg).1 0 v7.toNatClampNeg
            have r129 : gI z9 12 = gI zm 12 := cm9.2.2.1.1 12 (by decide)
            refine hK8 v6 v7 z9 ⟨fun cc => ?_, fun cc => ?_⟩
            · rw [r129] at cc
              have cc' := i_le rfl rfl cc
              rw [show v7.toNatClampNeg = (gI zm 12).toNatClampNeg by omega] at cm9 h6
              exact hk v6 z9 cm9 h6
            · rw [r129] at cc
              have cc' := i_nle rfl rfl cc
              have hv16 : vp_in v7 16 := vin rfl k0 (by omega)
              have f7 : 0 ≤ (gF zm 7 v7.toNatClampNeg).toInt ∧ (gF zm 7 v7.toNatClampNeg).toInt ≤ 167 := tm.2 7 _
              have f8 : 0 ≤ (gF zm 8 v7.toNatClampNeg).toInt ∧ (gF zm 8 v7.toNatClampNeg).toInt ≤ 167 := tm.2 8 _
              have c7 := clampN f7.1
              refine ⟨hv16, ?_⟩
              intro K12 hK12
              have next : ∀ (v11 : Int32) (z13 : St), CM z13 zm (eP zm (op0 st) bg (v7.toNatClampNeg + 1)).1 (eP zm (op0 st) bg (v7.toNatClampNeg + 1)).2 → v11.toInt = (cnt (eP zm (op0 st) bg (v7.toNatClampNeg + 1)).1 0 (v7.toNatClampNeg + 1) : Int) → K12 v11 z13 := by
                intro v11 z13 cm13 h11
                refine hK12 v11 z13 (fun x14 e14 => ?_)
                have i14 : x14.toInt = v7.toInt + 1 := by rw [e14]; exact a_add rfl rfl (by omega) (by omega)
                have c14 := clampN (x := x14) (by omega)
                have e : x14.toNatClampNeg = v7.toNatClampNeg + 1 := by omega
                exact ih8 v11 x14 z13 (by omega) (by omega) (by rw [e]; exact cm13) (by rw [e]; exact h11) (by omega)
              have h11r := cm9.2.2.2.1 v7.toNatClampNeg (by omega)
              -- the state of this job before its turn is 0 or 2
              have hst : (eP zm (op0 st) bg v7.toNatClampNeg).1 v7.toNatClampNeg = op0 st v7.toNatClampNeg := by
                have : ∀ k, k ≤ v7.toNatClampNeg → (eP zm (op0 st) bg k).1 v7.toNatClampNeg = op0 st v7.toNatClampNeg := by
                  intro k
                  induction k with
                  | zero => intro _; rfl
                  | succ k ihk =>
                    intro hk'
                    have i := ihk (by omega)
                    by_cases q : (eP zm (op0 st) bg k).1 k = 0 ∧ ¬ (chF zm (eP zm (op0 st) bg k).1 (eP zm (op0 st) bg k).2 k (wn zm k)).1 = -1
                    · have e : eP zm (op0 st) bg (k + 1) = (upd (eP zm (op0 st) bg k).1 k 1, upd (eP zm (op0 st) bg k).2 k (chF zm (eP zm (op0 st) bg k).1 (eP zm (op0 st) bg k).2 k (wn zm k)).1) := pIf_t q
                      rw [e]
                      show upd _ _ _ _ = _
                      rw [upd_ne (by omega)]; exact i
                    · have e : eP zm (op0 st) bg (k + 1) = eP zm (op0 st) bg k := pIf_f q
                      rw [e]; exact i
                exact this _ (Nat.le_refl _)
              have h02 : op0 st v7.toNatClampNeg = 0 ∨ op0 st v7.toNatClampNeg = 2 := by
                unfold op0
                rcases h3 v7.toNatClampNeg (by omega) with q | q | q
                · rw [q]; exact Or.inl (if_neg (by decide))
                · rw [q]; exact Or.inl (if_pos rfl)
                · rw [q]; exact Or.inr (if_neg (by decide))
              refine ⟨fun c2 => ⟨hv16, ?_⟩, fun c2 => ?_⟩
              · have hs0 : (eP zm (op0 st) bg v7.toNatClampNeg).1 v7.toNatClampNeg = 0 := by
                  rw [hst]
                  rcases h02 with q | q
                  · exact q
                  · exact absurd (by rw [h11r, hst, q]) c2
                intro K19 hK19
                have L19 : ∀ (p k : Nat) (v16 : Int32) (v17 : Int64) (v18 : Int32) (z20 : St), k ≤ wn zm v7.toNatClampNeg → v18.toInt = (((gF zm 7 v7.toNatClampNeg).toNatClampNeg + k : Nat) : Int) → CM z20 zm (eP zm (op0 st) bg v7.toNatClampNeg).1 (eP zm (op0 st) bg v7.toNatClampNeg).2 → v16 = (chF zm (eP zm (op0 st) bg v7.toNatClampNeg).1 (eP zm (op0 st) bg v7.toNatClampNeg).2 v7.toNatClampNeg k).1 → (0 ≤ v16.toInt → v17 = (chF zm (eP zm (op0 st) bg v7.toNatClampNeg).1 (eP zm (op0 st) bg v7.toNatClampNeg).2 v7.toNatClampNeg k).2) → wn zm v7.toNatClampNeg - k < p → K19 v16 v17 v18 z20 := by
                  intro p
                  induction p with
                  | zero => intro k v16 v17 v18 z20 _ _ _ _ _ q; omega
                  | succ p ihp =>
                    intro k v16 v17 v18 z20 hkw h18 cm20 h16 h17 pm
                    unfold wn at hkw pm
                    have r8 : gF z20 8 = gF zm 8 := cm20.2.2.1.2 8 (by decide)
                    have hin := chF_in (st := (eP zm (op0 st) bg v7.toNatClampNeg).1) (bg := (eP zm (op0 st) bg v7.toNatClampNeg).2) (j := v7.toNatClampNeg) f7 k (by omega)
                    have hsg : (v16.toInt < 0 ∧ v16 = -1 ∧ (chF zm (eP zm (op0 st) bg v7.toNatClampNeg).1 (eP zm (op0 st) bg v7.toNatClampNeg).2 v7.toNatClampNeg k).2 = 1000000000000000000) ∨ (0 ≤ v16.toInt ∧ ¬ v16 = -1 ∧ v16.toInt ≤ 167) := by
                      rcases hin with q | ⟨t, q1, q2, q3, _⟩
                      · left
                        rw [q.1] at h16
                        exact ⟨by rw [h16]; decide, h16, q.2⟩
                      · right
                        rw [q1] at h16
                        have it : (nI t).toInt = (t : Int) := nI_toInt (by omega)
                        have := q3.2.2.1
                        rw [h16]
                        exact ⟨by omega, m1_ne it (by omega), by omega⟩
                    refine hK19 v16 v17 v18 z20 ⟨hv16, fun c => ?_, fun c => ?_⟩
                    · rw [r8] at c
                      have c' := i_lt rfl rfl c
                      have ek : k = wn zm v7.toNatClampNeg := by unfold wn; omega
                      rw [ek] at h16 h17 hsg
                      intro K22 hK22
                      have hend : ∀ z23 : St, CM z23 zm (eP zm (op0 st) bg (v7.toNatClampNeg + 1)).1 (eP zm (op0 st) bg (v7.toNatClampNeg + 1)).2 → ((eP zm (op0 st) bg (v7.toNatClampNeg + 1)).1 v7.toNatClampNeg = 0 ↔ v16.toInt < 0) → (∀ o, o < v7.toNatClampNeg → (eP zm (op0 st) bg (v7.toNatClampNeg + 1)).1 o = (eP zm (op0 st) bg v7.toNatClampNeg).1 o) → K22 z23 := by
                        intro z23 cm23 hz hsame
                        refine hK22 z23 ?_
                        intro K26 hK26
                        have hcn : cnt (eP zm (op0 st) bg (v7.toNatClampNeg + 1)).1 0 (v7.toNatClampNeg + 1) = cnt (eP zm (op0 st) bg v7.toNatClampNeg).1 0 v7.toNatClampNeg + (if (eP zm (op0 st) bg (v7.toNatClampNeg + 1)).1 v7.toNatClampNeg = 0 then 1 else 0) := by
                          show cnt _ 0 v7.toNatClampNeg + _ = _
                          rw [cnt_co _ hsame]
                        refine ⟨fun cs => hK26 _ _ (fun x27 e27 => next x27 z23 cm23 ?_), fun cs => hK26 _ _ (fun x27 e27 => next x27 z23 cm23 ?_)⟩
                        · have cs' := i_le (p := 0) rfl rfl cs
                          rw [hcn, if_neg (fun q => by have := hz.mp q; omega), e27, a_add h6 (show (0 : Int32).toInt = 0 from rfl) (by omega) (by omega)]
                          omega
                        · have cs' := i_nle (p := 0) rfl rfl cs
                          rw [hcn, if_pos (hz.mpr cs'), e27, a_add h6 (show (1 : Int32).toInt = 1 from rfl) (by omega) (by omega)]
                          omega
                      refine ⟨fun cn => ?_, fun cn => ⟨hv16, ?_⟩⟩
                      · have cn' := i_lt (q := 0) rfl rfl cn
                        rcases hsg with q | q
                        · have e : eP zm (op0 st) bg (v7.toNatClampNeg + 1) = eP zm (op0 st) bg v7.toNatClampNeg := pIf_f (fun x => x.2 (by rw [← h16]; exact q.2.1))
                          exact hend z20 (by rw [e]; exact cm20) (by rw [e]; exact ⟨fun _ => cn', fun _ => hs0⟩) (fun o _ => by rw [e])
                        · omega
                      · have cn' := i_nlt (q := 0) rfl rfl cn
                        have hne : ¬ v16 = -1 := by
                          rcases hsg with q | q
                          · omega
                          · exact q.2.1
                        have hle : v16.toInt ≤ 167 := by
                          rcases hsg with q | q
                          · omega
                          · exact q.2.2
                        have e : eP zm (op0 st) bg (v7.toNatClampNeg + 1) = (upd (eP zm (op0 st) bg v7.toNatClampNeg).1 v7.toNatClampNeg 1, upd (eP zm (op0 st) bg v7.toNatClampNeg).2 v7.toNatClampNeg v16) := by rw [h16]; exact pIf_t ⟨hs0, by rw [← h16]; exact hne⟩
                        intro z30 e30
                        refine ⟨hv16, ?_⟩
                        intro z31 e31
                        have t30 : TM z30 := by rw [e30]; exact Ty_wR cm20.1 trivial
                        have a11 : gF z31 11 = upd (gF z20 11) v7.toNatClampNeg 1 := by rw [e31]; show gF z30 11 = _; rw [e30, gF_wR]
                        have a12 : gF z31 12 = upd (gF z20 12) v7.toNatClampNeg v16 := by rw [e31, gF_wR, e30]; rfl
                        refine hend z31 ?_ ?_ (fun o ho => ?_)
                        · rw [e]
                          refine ⟨by rw [e31]; exact Ty_wR t30 trivial, ?_, (cm20.2.2.1.r (by decide) e30).r (by decide) e31, fun o ho => ?_, fun o ho hs => ?_, fun o ho hs => ?_⟩
                          · rw [e31, e30]; exact cm20.2.1
                          · rw [a11]
                            show _ = upd _ _ _ o
                            by_cases eo : o = v7.toNatClampNeg
                            · rw [eo, upd_at, upd_at]
                            · rw [upd_ne eo, upd_ne eo]; exact cm20.2.2.2.1 o ho
                          · rw [a12]
                            show _ = upd _ _ _ o
                            by_cases eo : o = v7.toNatClampNeg
                            · rw [eo, upd_at, upd_at]
                            · rw [upd_ne eo, upd_ne eo]
                              have hs' : ¬ upd (eP zm (op0 st) bg v7.toNatClampNeg).1 v7.toNatClampNeg 1 o = 0 := hs
                              rw [upd_ne eo] at hs'
                              exact cm20.2.2.2.2.1 o ho hs'
                          · show 0 ≤ (upd _ _ _ o).toInt ∧ (upd _ _ _ o).toInt ≤ 167
                            by_cases eo : o = v7.toNatClampNeg
                            · rw [eo, upd_at]; omega
                            · rw [upd_ne eo]
                              have hs' : ¬ upd (eP zm (op0 st) bg v7.toNatClampNeg).1 v7.toNatClampNeg 1 o = 0 := hs
                              rw [upd_ne eo] at hs'
                              exact cm20.2.2.2.2.2 o ho hs'
                        · rw [e]
                          show upd _ _ _ _ = 0 ↔ _
                          rw [upd_at]
                          exact ⟨fun q => absurd q (by decide), fun q => by omega⟩
                        · rw [e]
                          show upd _ _ _ o = _
                          rw [upd_ne (by omega)]
                    · rw [r8] at c
                      have c' := i_nlt rfl rfl c
                      have cc18 := clampN (x := v18) (by omega)
                      have e18 : v18.toNatClampNeg = (gF zm 7 v7.toNatClampNeg).toNatClampNeg + k := by omega
                      have en : v18 = nI ((gF zm 7 v7.toNatClampNeg).toNatClampNeg + k) := by rw [← e18]; exact nI_cl (by omega)
                      have hct := bd v7.toNatClampNeg ((gF zm 7 v7.toNatClampNeg).toNatClampNeg + k) (by omega)
                      have nxt : ∀ (v34 : Int32) (v35 : Int64) (z32 : St), CM z32 zm (eP zm (op0 st) bg v7.toNatClampNeg).1 (eP zm (op0 st) bg v7.toNatClampNeg).2 → v34 = (chF zm (eP zm (op0 st) bg v7.toNatClampNeg).1 (eP zm (op0 st) bg v7.toNatClampNeg).2 v7.toNatClampNeg (k + 1)).1 → (0 ≤ v34.toInt → v35 = (chF zm (eP zm (op0 st) bg v7.toNatClampNeg).1 (eP zm (op0 st) bg v7.toNatClampNeg).2 v7.toNatClampNeg (k + 1)).2) → ∀ x37 : Int32, x37 = v18 + 1 → K19 v34 v35 x37 z32 := by
                        intro v34 v35 z32 cm32 h34 h35 x37 e37
                        have i37 : x37.toInt = v18.toInt + 1 := by rw [e37]; exact a_add rfl rfl (by omega) (by omega)
                        exact ihp (k + 1) v34 v35 x37 z32 (by unfold wn; omega) (by omega) cm32 h34 h35 (by unfold wn; omega)
                      have keep : ∀ z32 : St, CM z32 zm (eP zm (op0 st) bg v7.toNatClampNeg).1 (eP zm (op0 st) bg v7.toNatClampNeg).2 → ¬ (MBg zm (eP zm (op0 st) bg v7.toNatClampNeg).1 (eP zm (op0 st) bg v7.toNatClampNeg).2 v7.toNatClampNeg (((gF zm 7 v7.toNatClampNeg).toNatClampNeg + k : Nat) : Int) ∧ (ctM zm v7.toNatClampNeg ((gF zm 7 v7.toNatClampNeg).toNatClampNeg + k)).toInt < (chF zm (eP zm (op0 st) bg v7.toNatClampNeg).1 (eP zm (op0 st) bg v7.toNatClampNeg).2 v7.toNatClampNeg k).2.toInt) → ∀ x37 : Int32, x37 = v18 + 1 → K19 v16 v17 x37 z32 := by
                        intro z32 cm32 hn
                        have e : chF zm (eP zm (op0 st) bg v7.toNatClampNeg).1 (eP zm (op0 st) bg v7.toNatClampNeg).2 v7.toNatClampNeg (k + 1) = chF zm (eP zm (op0 st) bg v7.toNatClampNeg).1 (eP zm (op0 st) bg v7.toNatClampNeg).2 v7.toNatClampNeg k := pIf_f hn
                        exact nxt v16 v17 z32 cm32 (by rw [e]; exact h16) (by rw [e]; exact h17)
                      refine CM_mb cm20 k0 cc' (fun mb z32 cm32 s32 _ => ?_) (fun mb z32 cm32 s32 _ => ?_)
                      · rw [h18] at mb
                        intro K36 hK36
                        refine ⟨fun q => absurd q (by decide), fun _ => ?_⟩
                        refine v_X9_costAt _ _ _ _ _ cm32.1 (by omega) (by omega) ?_
                        have hcv : csM (fun k => gF z32 10 (4 * v7.toNatClampNeg + k)) (fun t => PR z32 (nI t) (gI z32 2)) v18.toNatClampNeg (gF z32 9 v7.toNatClampNeg).toNatClampNeg = ctM zm v7.toNatClampNeg ((gF zm 7 v7.toNatClampNeg).toNatClampNeg + k) := by
                          rw [← ctM_sp cm32.2.2.1, ← e18]; rfl
                        rw [hcv]
                        intro K41 hK41
                        have win : (ctM zm v7.toNatClampNeg ((gF zm 7 v7.toNatClampNeg).toNatClampNeg + k)).toInt < (chF zm (eP zm (op0 st) bg v7.toNatClampNeg).1 (eP zm (op0 st) bg v7.toNatClampNeg).2 v7.toNatClampNeg k).2.toInt → K41 := by
                          intro hl
                          have e : chF zm (eP zm (op0 st) bg v7.toNatClampNeg).1 (eP zm (op0 st) bg v7.toNatClampNeg).2 v7.toNatClampNeg (k + 1) = (nI ((gF zm 7 v7.toNatClampNeg).toNatClampNeg + k), ctM zm v7.toNatClampNeg ((gF zm 7 v7.toNatClampNeg).toNatClampNeg + k)) := pIf_t ⟨mb, hl⟩
                          exact hK41 (hK36 _ _ (nxt _ _ z32 cm32 (by rw [e]; exact en) (fun _ => by rw [e])))
                        refine ⟨fun cn => win ?_, fun cn => ⟨fun cl => hK36 _ _ (keep z32 cm32 (fun q => ?_)), fun cl => win ?_⟩⟩
                        · have cn' := i_lt (q := 0) rfl rfl cn
                          rcases hsg with q | q
                          · rw [q.2.2, show (1000000000000000000 : Int64).toInt = 1000000000000000000 from rfl]; omega
                          · omega
                        · have cn' := i_nlt (q := 0) rfl rfl cn
                          have h5 := q.2
                          rw [← h17 cn'] at h5
                          exact absurd (lgc_lt.mpr h5) (Int32.not_lt.mpr cl)
                        · have cn' := i_nlt (q := 0) rfl rfl cn
                          have h5 := lgc_lt.mp (Int32.not_le.mp cl)
                          rw [h17 cn'] at h5
                          exact h5
                      · rw [h18] at mb
                        intro K36 hK36
                        exact ⟨fun _ => hK36 _ _ (keep z32 cm32 (fun q => mb q.1)), fun q => absurd rfl q⟩
                intro x44 e44
                have r7 : gF z9 7 = gF zm 7 := cm9.2.2.1.2 7 (by decide)
                exact L19 _ 0 _ _ x44 z9 (Nat.zero_le _) (by rw [e44, r7]; omega) cm9 rfl (fun q => absurd q (by decide)) (Nat.lt_succ_self _)
              · have hs2 : (eP zm (op0 st) bg v7.toNatClampNeg).1 v7.toNatClampNeg = 2 := by rw [← h11r]; exact c2
                have e : eP zm (op0 st) bg (v7.toNatClampNeg + 1) = eP zm (op0 st) bg v7.toNatClampNeg := pIf_f (fun q => absurd (hs2.symm.trans q.1) (by decide))
                refine next v6 z9 (by rw [e]; exact cm9) ?_
                rw [e]
                show _ = ((cnt (eP zm (op0 st) bg v7.toNatClampNeg).1 0 v7.toNatClampNeg + (if (eP zm (op0 st) bg v7.toNatClampNeg).1 v7.toNatClampNeg = 0 then 1 else 0) : Nat) : Int)
                rw [hs2, if_neg (by decide)]; exact h6
        exact L8 _ 0 0 z4 (by decide) f12.1 cm0 rfl (Nat.lt_succ_self _)
      · rw [r12] at c
        have c' := i_nle rfl rfl c
        have h11 := a11 v2.toNatClampNeg (by omega)
        rw [opK_ge (by omega)] at h11
        intro K47 hK47
        have go : ∀ s45 : Int32, s45 = op0 st v2.toNatClampNeg → K47 s45 v2 := by
          intro s45 hs
          refine hK47 s45 v2 ⟨vin rfl g0 (by omega), ?_⟩
          intro z48 e48 x49 e49
          have i49 : x49.toInt = v2.toInt + 1 := by rw [e49]; exact a_add rfl rfl (by omega) (by omega)
          refine ih x49 z48 (by omega) (by omega) ⟨by rw [e48]; exact Ty_wR t4 trivial, by rw [e48]; exact fr4, s4.r (by decide) e48, fun o ho => ?_, fun o ho hz => ?_, fun o ho hz => ?_⟩ (by omega)
          · rw [e48, gF_upd]
            by_cases e : o = v2.toNatClampNeg
            · rw [if_pos e, opK_lt (by omega), hs, e]
            · rw [if_neg e, a11 o ho]
              by_cases e2 : (o : Int) < v2.toInt
              · rw [opK_lt e2, opK_lt (by omega)]
              · rw [opK_ge e2, opK_ge (by omega)]
          · rw [e48]
            show gF z4 12 o = _
            refine a12 o ho ?_
            by_cases e2 : (o : Int) < v2.toInt
            · rw [opK_lt e2]; rw [opK_lt (by omega)] at hz; exact hz
            · rw [opK_ge e2]
              by_cases e : o = v2.toNatClampNeg
              · rw [opK_lt (by omega)] at hz
                unfold op0 at hz
                intro q
                rw [q] at hz
                exact hz (if_neg (by decide))
              · rw [opK_ge (by omega)] at hz; exact hz
          · refine ab o ho ?_
            by_cases e2 : (o : Int) < v2.toInt
            · rw [opK_lt e2]; rw [opK_lt (by omega)] at hz; exact hz
            · rw [opK_ge e2]
              by_cases e : o = v2.toNatClampNeg
              · rw [opK_lt (by omega)] at hz
                unfold op0 at hz
                intro q
                rw [q] at hz
                exact hz (if_neg (by decide))
              · rw [opK_ge (by omega)] at hz; exact hz
        refine ⟨fun c2 => go _ ?_, fun c2 => go _ ?_⟩
        · rw [h11] at c2
          unfold op0
          rcases h3 v2.toNatClampNeg (by omega) with q | q | q
          · rw [q]; exact (if_neg (by decide)).symm
          · rw [q]; exact (if_pos rfl).symm
          · exact absurd q c2
        · rw [h11] at c2
          unfold op0
          rw [c2]; exact (if_neg (by decide)).symm
  refine L1 _ 0 z1 (by decide) f12.1 ⟨cm1.1, cm1.2.1, cm1.2.2.1, fun o ho => ?_, fun o ho hs => ?_, fun o ho hs => ?_⟩ (Nat.lt_succ_self _)
  · rw [opK_ge (by have : (0 : Int32).toInt = 0 := rfl; omega)]; exact cm1.2.2.2.1 o ho
  · rw [opK_ge (by have : (0 : Int32).toInt = 0 := rfl; omega)] at hs; exact cm1.2.2.2.2.1 o ho hs
  · rw [opK_ge (by have : (0 : Int32).toInt = 0 := rfl; omega)] at hs; exact cm1.2.2.2.2.2 o ho hs
