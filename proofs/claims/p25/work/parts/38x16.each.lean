-- ONE BY ONE: the plan that both sides make
theorem ldF_co {r5 r6 r9 r10 st bg st' bg' : Nat → Int32} {b1 b2 b3 : Int32} : ∀ n : Nat, n ≤ 16 → (∀ o, o < n → st' o = st o) → (∀ o, o < n → ¬ st o = 0 → bg' o = bg o) → ldF r5 r6 r9 r10 st' bg' b1 b2 b3 n = ldF r5 r6 r9 r10 st bg b1 b2 b3 n := by
  intro n
  induction n with
  | zero => intro _ _ _; rfl
  | succ n ih =>
    intro h16 hs hb
    show ldF r5 r6 r9 r10 st' bg' b1 b2 b3 n + _ = ldF r5 r6 r9 r10 st bg b1 b2 b3 n + _
    rw [ih (by omega) (fun o ho => hs o (by omega)) (fun o ho => hb o (by omega)), drV_co (by omega) (hs n (by omega)) (hb n (by omega))]
theorem MBg_co {z : St} {st bg st' bg' : Nat → Int32} {j : Nat} {h : Int} (tm : TM z) (hs : ∀ o : Nat, (o : Int) < (gI z 12).toInt → st' o = st o) (hb : ∀ o : Nat, (o : Int) < (gI z 12).toInt → ¬ st o = 0 → bg' o = bg o) : MBg z st' bg' j h ↔ MBg z st bg j h := by
  have f12 : 0 ≤ (gI z 12).toInt ∧ (gI z 12).toInt ≤ 16 := tm.1 12
  have c12 := clampN f12.1
  have el : ∀ b1 b2 b3, ldF (gF z 5) (gF z 6) (gF z 9) (gF z 10) st' bg' b1 b2 b3 (gI z 12).toNatClampNeg = ldF (gF z 5) (gF z 6) (gF z 9) (gF z 10) st bg b1 b2 b3 (gI z 12).toNatClampNeg := fun b1 b2 b3 => ldF_co _ (by omega) (fun o ho => hs o (by omega)) (fun o ho => hb o (by omega))
  have eF : Fg z st' bg' j = Fg z st bg j := by funext t; unfold Fg; rw [el]
  have eA : Ag z st' bg' j = Ag z st bg j := by
    funext t
    unfold Ag
    rw [amG_sm, amG_sm]
    exact sm_congr (fun o _ => el _ _ _)
  have eT : TUg z st' bg' j h ↔ TUg z st bg j h := by
    unfold TUg TUp
    constructor
    · intro hu o ho hso
      have := hu o ho (by rw [hs o (by omega)]; exact hso)
      rw [hb o (by omega) hso] at this
      exact this
    · intro hu o ho hso
      rw [hs o (by omega)] at hso
      have := hu o ho hso
      rw [hb o (by omega) hso]
      exact this
  unfold MBg
  rw [eF, eA]
  unfold MBp
  rw [eT]
/-- the cost of job j from hour t on, as known now -/
def ctM (z : St) (j t : Nat) : Int64 := csM (fun k => gF z 10 (4 * j + k)) (fun t => PR z (nI t) (gI z 2)) t (gF z 9 j).toNatClampNeg
/-- the first cheapest hour of the first k hours of the window -/
noncomputable def chF (z : St) (st bg : Nat → Int32) (j : Nat) : Nat → Int32 × Int64
  | 0 => (-1, 1000000000000000000)
  | k + 1 => pIf (MBg z st bg j (((gF z 7 j).toNatClampNeg + k : Nat) : Int) ∧ (ctM z j ((gF z 7 j).toNatClampNeg + k)).toInt < (chF z st bg j k).2.toInt) (nI ((gF z 7 j).toNatClampNeg + k), ctM z j ((gF z 7 j).toNatClampNeg + k)) (chF z st bg j k)
def wn (z : St) (j : Nat) : Nat := ((gF z 8 j).toInt + 1 - (gF z 7 j).toInt).toNat
/-- needs and prices keep their bounds -/
def BD (z : St) : Prop := (∀ j k : Nat, (j : Int) < (gI z 12).toInt → (k : Int) < (gF z 9 j).toInt → 0 ≤ (gF z 10 (4 * j + k)).toInt ∧ (gF z 10 (4 * j + k)).toInt ≤ 5000) ∧ (-1000 ≤ (gI z 7).toInt ∧ (gI z 7).toInt ≤ 10000) ∧ ∀ i : Nat, -1000 ≤ (gF z 2 i).toInt ∧ (gF z 2 i).toInt ≤ 10000
def TD (zx zm : St) : Prop := ∀ t : Nat, t < 168 → gF zx 5 t = PR zm (nI t) (gI zm 2)
/-- the class's state zx holds the plan st, bg over what zm was told -/
def CP (zx zm : St) (st bg : Nat → Int32) : Prop := SE zx zm ∧ RE zx zm ∧ TD zx zm ∧ PX zx ∧ (∀ o : Nat, (o : Int) < (gI zm 12).toInt → gF zx 19 o = st o) ∧ ∀ o : Nat, (o : Int) < (gI zm 12).toInt → ¬ st o = 0 → gF zx 20 o = bg o
theorem PE_co {z : St} {n : Nat} {r6 r9 r10 st bg st' bg' : Nat → Int32} (h : PE z n r6 r9 r10 st bg) (hn : n ≤ 16) (hs : ∀ o, o < n → st' o = st o) (hb : ∀ o, o < n → ¬ st o = 0 → bg' o = bg o) : PE z n r6 r9 r10 st' bg' := by
  refine ⟨fun hh t h1 h2 => (h.1 hh t h1 h2).trans (sm_congr (fun i hi => ?_)), fun t h2 => (h.2 t h2).trans (sm_congr (fun i hi => ?_))⟩
  · unfold tH
    rw [drV_co (by omega) (hs i hi) (hb i hi)]
  · exact (drV_co (by omega) (hs i hi) (hb i hi)).symm
theorem CP_pe {zx zm : St} {st bg : Nat → Int32} (tm : TM zm) (h : CP zx zm st bg) : PE zx (gI zm 12).toNatClampNeg (gF zm 6) (gF zm 9) (gF zm 10) st bg := by
  have f12 : 0 ≤ (gI zm 12).toInt ∧ (gI zm 12).toInt ≤ 16 := tm.1 12
  have c12 := clampN f12.1
  obtain ⟨se, re, td, px, hst, hbg⟩ := h
  unfold PX at px
  rw [se.1.1, se.2.1.1, se.2.1.2.2.2.1, se.2.1.2.2.2.2] at px
  exact PE_co px (by omega) (fun o ho => (hst o (by omega)).symm) (fun o ho hs => (hbg o (by omega) (by rw [← hst o (by omega)]; exact hs)).symm)
theorem CP_mb {zx zm : St} {st bg : Nat → Int32} {j : Nat} {h : Int} (tm : TM zm) (cp : CP zx zm st bg) (hj : (j : Int) < (gI zm 12).toInt) (hs : st j = 0) : MBx zx j h ↔ MBg zm st bg j h := MB_eq cp.1 tm (CP_pe tm cp) cp.2.1 cp.2.2.2.2.1 cp.2.2.2.2.2 hj hs
theorem ct_eq {zx zm : St} {st bg : Nat → Int32} {j t : Nat} (tm : TM zm) (bd : BD zm) (cp : CP zx zm st bg) (hj : (j : Int) < (gI zm 12).toInt) : csX (fun k => gF zx 18 (4 * j + k)) (gF zx 5) t (gF zx 17 j).toNatClampNeg = ctM zm j t ∧ -200000000 ≤ (ctM zm j t).toInt ∧ (ctM zm j t).toInt ≤ 200000000 := by
  have f9 : 0 ≤ (gF zm 9 j).toInt ∧ (gF zm 9 j).toInt ≤ 4 := tm.2 9 _
  have c9 := clampN f9.1
  obtain ⟨se, re, td, px, hst, hbg⟩ := cp
  have hp : ∀ t, t < 168 → -1000 ≤ (PR zm (nI t) (gI zm 2)).toInt ∧ (PR zm (nI t) (gI zm 2)).toInt ≤ 10000 := fun t _ => prF_bd bd.2.1 bd.2.2 _
  have h := cs_eq (nd := fun k => gF zm 10 (4 * j + k)) (p := fun t => PR zm (nI t) (gI zm 2)) (h := t) (gF zm 9 j).toNatClampNeg (fun k hk => bd.1 j k hj (by omega)) hp (by omega)
  have hx : ∀ n, csX (fun k => gF zx 18 (4 * j + k)) (gF zx 5) t n = csX (fun k => gF zm 10 (4 * j + k)) (fun t => PR zm (nI t) (gI zm 2)) t n := by
    intro n
    induction n with
    | zero => rfl
    | succ n ih =>
      show csX _ _ _ n + _ = csX _ _ _ n + _
      rw [ih, se.2.1.2.2.2.2]
      by_cases c : t + n < 168
      · rw [if_pos c, if_pos c, td (t + n) c]
      · rw [if_neg c, if_neg c]
  unfold ctM
  rw [hx, se.2.1.2.2.2.1, h.1]
  exact ⟨rfl, by omega, by omega⟩
theorem v_X2_cheapestHour (b1 : Int32) (z zm : St) (P : Int32 → Prop) (st bg : Nat → Int32) (ht : TX z) (tm : TM zm) (bd : BD zm) (cp : CP z zm st bg) (h0 : 0 ≤ b1.toInt) (hj : b1.toInt < (gI zm 12).toInt) (hs : st b1.toNatClampNeg = 0) (hk : P (chF zm st bg b1.toNatClampNeg (wn zm b1.toNatClampNeg)).1) : wp_X2_cheapestHour b1 z P := by
  have f12 : 0 ≤ (gI zm 12).toInt ∧ (gI zm 12).toInt ≤ 16 := tm.1 12
  have hv : vp_in b1 16 := vin rfl h0 (by omega)
  have c1 := clampN h0
  have f7 : 0 ≤ (gF zm 7 b1.toNatClampNeg).toInt ∧ (gF zm 7 b1.toNatClampNeg).toInt ≤ 167 := tm.2 7 _
  have f8 : 0 ≤ (gF zm 8 b1.toNatClampNeg).toInt ∧ (gF zm 8 b1.toNatClampNeg).toInt ≤ 167 := tm.2 8 _
  have c7 := clampN f7.1
  have q15 : gF z 15 = gF zm 7 := cp.1.2.1.2.1
  have q16 : gF z 16 = gF zm 8 := cp.1.2.1.2.2.1
  unfold wp_X2_cheapestHour
  refine ⟨hv, ?_⟩
  rw [q16, q15]
  intro K4 hK4
  have LL : ∀ (n k : Nat) (v1 : Int32) (v2 : Int64) (v3 : Int32), k ≤ wn zm b1.toNatClampNeg → v3.toInt = (((gF zm 7 b1.toNatClampNeg).toNatClampNeg + k : Nat) : Int) → v1 = (chF zm st bg b1.toNatClampNeg k).1 → v2 = (chF zm st bg b1.toNatClampNeg k).2 → wn zm b1.toNatClampNeg - k < n → K4 v1 v2 v3 := by
    intro n
    induction n with
    | zero => intro k v1 v2 v3 _ _ _ _ q; omega
    | succ n ih =>
      intro k v1 v2 v3 hkw h3 h1 h2 gm
      unfold wn at hkw gm
      refine hK4 v1 v2 v3 ⟨hv, fun c => ?_, fun c => ?_⟩
      · have c' := i_lt rfl rfl c
        rw [h1, show k = wn zm b1.toNatClampNeg by unfold wn; omega]; exact hk
      · have c' := i_nlt rfl rfl c
        have c3 := clampN (x := v3) (by omega)
        have e3 : v3.toNatClampNeg = (gF zm 7 b1.toNatClampNeg).toNatClampNeg + k := by omega
        have en : v3 = nI ((gF zm 7 b1.toNatClampNeg).toNatClampNeg + k) := by rw [← e3]; exact nI_cl (by omega)
        have hc := ct_eq (t := v3.toNatClampNeg) tm bd cp (show ((b1.toNatClampNeg : Nat) : Int) < (gI zm 12).toInt by omega)
        have next : ∀ (v8 : Int32) (v9 : Int64), (v8, v9) = chF zm st bg b1.toNatClampNeg (k + 1) → ∀ x11 : Int32, x11 = v3 + 1 → K4 v8 v9 x11 := by
          intro v8 v9 hq x11 e11
          have i11 : x11.toInt = v3.toInt + 1 := by rw [e11]; exact a_add rfl rfl (by omega) (by omega)
          exact ih (k + 1) v8 v9 x11 (by unfold wn; omega) (by omega) (by rw [← hq]) (by rw [← hq]) (by unfold wn; omega)
        have keep : ¬ (MBg zm st bg b1.toNatClampNeg (((gF zm 7 b1.toNatClampNeg).toNatClampNeg + k : Nat) : Int) ∧ (ctM zm b1.toNatClampNeg ((gF zm 7 b1.toNatClampNeg).toNatClampNeg + k)).toInt < (chF zm st bg b1.toNatClampNeg k).2.toInt) → (v1, v2) = chF zm st bg b1.toNatClampNeg (k + 1) := by
          intro hn
          show _ = pIf _ _ _
          rw [pIf_f hn, h1, h2]
        refine v_X2_mayBegin _ _ _ _ ht (by omega) (fun mb => ?_) (fun mb => ?_)
        · rw [CP_mb tm cp (by omega) hs, h3] at mb
          intro K10 hK10
          refine ⟨fun q => absurd q (by decide), fun _ => ?_⟩
          refine v_X1_costFrom_5 _ _ _ _ ht (by omega) (by omega) ?_
          rw [hc.1, e3]
          refine ⟨fun cl => hK10 v1 v2 (next v1 v2 (keep (fun q => ?_))), fun cl => hK10 _ _ (next _ _ ?_)⟩
          · have h5 := q.2
            rw [← h2] at h5
            exact absurd (lgc_lt.mpr h5) (Int32.not_lt.mpr cl)
          · have h5 := lgc_lt.mp (Int32.not_le.mp cl)
            rw [h2] at h5
            show _ = pIf _ _ _
            rw [pIf_t ⟨mb, h5⟩, ← en]
        · rw [CP_mb tm cp (by omega) hs, h3] at mb
          intro K10 hK10
          exact ⟨fun _ => hK10 v1 v2 (next v1 v2 (keep (fun q => mb q.1))), fun q => absurd rfl q⟩
  intro x16 e16
  exact LL _ 0 _ _ x16 (Nat.zero_le _) (by rw [e16]; omega) rfl rfl (Nat.lt_succ_self _)
theorem chF_in {z : St} {st bg : Nat → Int32} {j : Nat} (h7 : 0 ≤ (gF z 7 j).toInt ∧ (gF z 7 j).toInt ≤ 167) : ∀ k, k ≤ 168 → ((chF z st bg j k).1 = -1 ∧ (chF z st bg j k).2 = 1000000000000000000) ∨ (∃ t : Nat, (chF z st bg j k).1 = nI t ∧ t < 400 ∧ MBg z st bg j (t : Int) ∧ (chF z st bg j k).2 = ctM z j t) := by
  have c7 := clampN h7.1
  intro k
  induction k with
  | zero => intro _; exact Or.inl ⟨rfl, rfl⟩
  | succ k ih =>
    intro hk
    by_cases c : MBg z st bg j (((gF z 7 j).toNatClampNeg + k : Nat) : Int) ∧ (ctM z j ((gF z 7 j).toNatClampNeg + k)).toInt < (chF z st bg j k).2.toInt
    · have e : chF z st bg j (k + 1) = (nI ((gF z 7 j).toNatClampNeg + k), ctM z j ((gF z 7 j).toNatClampNeg + k)) := pIf_t c
      rw [e]
      exact Or.inr ⟨_, rfl, by omega, c.1, rfl⟩
    · have e : chF z st bg j (k + 1) = chF z st bg j k := pIf_f c
      rw [e]
      exact ih (by omega)
/-- the plan after the first m jobs had their turn -/
noncomputable def eP (z : St) (st bg : Nat → Int32) : Nat → (Nat → Int32) × (Nat → Int32)
  | 0 => (st, bg)
  | m + 1 => pIf ((eP z st bg m).1 m = 0 ∧ ¬ (chF z (eP z st bg m).1 (eP z st bg m).2 m (wn z m)).1 = -1) (upd (eP z st bg m).1 m 1, upd (eP z st bg m).2 m (chF z (eP z st bg m).1 (eP z st bg m).2 m (wn z m)).1) (eP z st bg m)
