-- ONE BY ONE, the class
theorem SE_mv {zx z2 zm : St} {I F : List Nat} (h : SE zx zm) (s : Same I F zx z2) (a1 : 1308 ∉ I) (a2 : 705 ∉ I) (a3 : 706 ∉ I) (a4 : 2104 ∉ I) (b1 : 14 ∉ F) (b2 : 15 ∉ F) (b3 : 16 ∉ F) (b4 : 17 ∉ F) (b5 : 18 ∉ F) (c1 : 8 ∉ F) (c2 : 9 ∉ F) (c3 : 11 ∉ F) : SE z2 zm := by
  unfold SE
  rw [s.1 1308 a1, s.1 705 a2, s.1 706 a3, s.1 2104 a4, s.2 14 b1, s.2 15 b2, s.2 16 b3, s.2 17 b4, s.2 18 b5, s.2 8 c1, s.2 9 c2, s.2 11 c3]
  exact h
theorem RE_mv {zx z2 zm : St} {I F : List Nat} (h : RE zx zm) (s : Same I F zx z2) (a1 : 3402 ∉ I) (b1 : 35 ∉ F) (b2 : 36 ∉ F) (b3 : 5 ∉ F) : RE z2 zm := by
  unfold RE Qx Dx Bx
  rw [s.1 3402 a1, s.2 35 b1, s.2 36 b2, s.2 5 b3]
  exact h
theorem TD_mv {zx z2 zm : St} {I F : List Nat} (h : TD zx zm) (s : Same I F zx z2) (b3 : 5 ∉ F) : TD z2 zm := by
  unfold TD
  rw [s.2 5 b3]
  exact h
theorem CP_mv {zx z2 zm : St} {st bg st' bg' : Nat → Int32} (h : CP zx zm st bg) (s : Same [] [10, 12, 19, 20] zx z2) (px : PX z2) (hs : ∀ o : Nat, (o : Int) < (gI zm 12).toInt → gF z2 19 o = st' o) (hb : ∀ o : Nat, (o : Int) < (gI zm 12).toInt → ¬ st' o = 0 → gF z2 20 o = bg' o) : CP z2 zm st' bg' :=
  ⟨SE_mv h.1 s (by decide) (by decide) (by decide) (by decide) (by decide) (by decide) (by decide) (by decide) (by decide) (by decide) (by decide) (by decide), RE_mv h.2.1 s (by decide) (by decide) (by decide) (by decide), TD_mv h.2.2.1 s (by decide), px, hs, hb⟩
/-- all that are not done are open -/
def op0 (st : Nat → Int32) (o : Nat) : Int32 := if st o = 1 then 0 else st o
def opK (st : Nat → Int32) (v : Int) (o : Nat) : Int32 := if (o : Int) < v then op0 st o else st o
theorem opK_lt {st : Nat → Int32} {v : Int} {o : Nat} (h : (o : Int) < v) : opK st v o = op0 st o := if_pos h
theorem opK_ge {st : Nat → Int32} {v : Int} {o : Nat} (h : ¬ (o : Int) < v) : opK st v o = st o := if_neg h
def cnt (st : Nat → Int32) (x : Int32) : Nat → Nat
  | 0 => 0
  | n + 1 => cnt st x n + (if st n = x then 1 else 0)
theorem cnt_le (st : Nat → Int32) (x : Int32) : ∀ n, cnt st x n ≤ n := by
  intro n
  induction n with
  | zero => exact Nat.le_refl _
  | succ n ih =>
    show cnt st x n + (if st n = x then 1 else 0) ≤ n + 1
    by_cases c : st n = x
    · rw [if_pos c]; omega
    · rw [if_neg c]; omega
theorem cnt_co {st st' : Nat → Int32} {x : Int32} : ∀ n, (∀ o, o < n → st' o = st o) → cnt st' x n = cnt st x n := by
  intro n
  induction n with
  | zero => intro _; rfl
  | succ n ih =>
    intro h
    show cnt st' x n + _ = cnt st x n + _
    rw [ih (fun o ho => h o (by omega)), h n (by omega)]
theorem v_X1_inState (b1 : Int32) (z : St) (P : Int32 → Prop) (ht : TX z) (hk : ∀ r : Int32, r.toInt = (cnt (gF z 19) b1 (gI z 1308).toNatClampNeg : Int) → P r) : wp_X1_inState b1 z P := by
  have f : 0 ≤ (gI z 1308).toInt ∧ (gI z 1308).toInt ≤ 16 := ht.1 1308
  have cn := clampN f.1
  unfold wp_X1_inState
  intro K3 hK3
  have LL : ∀ (n : Nat) (v1 v2 : Int32), 0 ≤ v2.toInt → v2.toInt ≤ (gI z 1308).toInt → v1.toInt = (cnt (gF z 19) b1 v2.toNatClampNeg : Int) → (16 - v2.toInt).toNat < n → K3 v1 v2 := by
    intro n
    induction n with
    | zero => intro v1 v2 _ _ _ q; omega
    | succ n ih =>
      intro v1 v2 g0 g1 hs gm
      have cv := clampN g0
      have hc := cnt_le (gF z 19) b1 v2.toNatClampNeg
      refine hK3 v1 v2 ⟨fun c => hk v1 ?_, fun c => ⟨vin rfl g0 (by have := i_nle rfl rfl c; omega), ?_⟩⟩
      · have c' := i_le rfl rfl c
        rw [hs, show v2.toNatClampNeg = (gI z 1308).toNatClampNeg by omega]
      · have c' := i_nle rfl rfl c
        intro K6 hK6
        have go : ∀ v5 : Int32, v5.toInt = (cnt (gF z 19) b1 (v2.toNatClampNeg + 1) : Int) → K6 v5 := by
          intro v5 h5
          refine hK6 v5 (fun x7 e7 => ?_)
          have i7 : x7.toInt = v2.toInt + 1 := by rw [e7]; exact a_add rfl rfl (by omega) (by omega)
          have c7 := clampN (x := x7) (by omega)
          exact ih v5 x7 (by omega) (by omega) (by rw [show x7.toNatClampNeg = v2.toNatClampNeg + 1 by omega]; exact h5) (by omega)
        refine ⟨fun c1 => go v1 ?_, fun c1 x9 e9 => go x9 ?_⟩
        · show _ = ((cnt (gF z 19) b1 v2.toNatClampNeg + (if gF z 19 v2.toNatClampNeg = b1 then 1 else 0) : Nat) : Int)
          rw [if_neg c1]; exact hs
        · show _ = ((cnt (gF z 19) b1 v2.toNatClampNeg + (if gF z 19 v2.toNatClampNeg = b1 then 1 else 0) : Nat) : Int)
          rw [if_pos c1, e9, a_add hs (show (1 : Int32).toInt = 1 from rfl) (by omega) (by omega)]
          rfl
  exact LL _ 0 0 (by decide) f.1 rfl (Nat.lt_succ_self _)
theorem upd_at {f : Nat → Int32} {i : Nat} {v : Int32} : upd f i v i = v := if_pos rfl
theorem upd_ne {f : Nat → Int32} {i j : Nat} {v : Int32} (h : j ≠ i) : upd f i v j = f j := if_neg h
set_option maxHeartbeats 1000000 in
theorem v_X8_each (z zm : St) (P : Int32 → St → Prop) (st bg : Nat → Int32) (ht : TX z) (hrx : RX z) (tm : TM zm) (bd : BD zm) (cp : CP z zm st bg) (hk : ∀ (r : Int32) (z2 : St), TX z2 → RX z2 → Same [] [10, 12, 19, 20] z z2 → CP z2 zm (eP zm (op0 st) bg (gI zm 12).toNatClampNeg).1 (eP zm (op0 st) bg (gI zm 12).toNatClampNeg).2 → r.toInt = (cnt (eP zm (op0 st) bg (gI zm 12).toNatClampNeg).1 0 (gI zm 12).toNatClampNeg : Int) → P r z2) : wp_X8_each z P := by
  have f12 : 0 ≤ (gI zm 12).toInt ∧ (gI zm 12).toInt ≤ 16 := tm.1 12
  have c12 := clampN f12.1
  have q1308 : gI z 1308 = gI zm 12 := cp.1.1.1
  unfold wp_X8_each wp_X2_planOneByOne
  intro K2 hK2
  have L1 : ∀ (n : Nat) (v1 : Int32) (z3 : St), TX z3 → RX z3 → Same [] [10, 12, 19, 20] z z3 → 0 ≤ v1.toInt → v1.toInt ≤ (gI zm 12).toInt → CP z3 zm (opK st v1.toInt) bg → (16 - v1.toInt).toNat < n → K2 v1 z3 := by
    intro n
    induction n with
    | zero => intro v1 z3 _ _ _ _ _ _ q; omega
    | succ n ih =>
      intro v1 z3 t3 x3 s3 g0 g1 cp3 gm
      have cv := clampN g0
      have r1308 : gI z3 1308 = gI zm 12 := cp3.1.1.1
      refine hK2 v1 z3 ⟨fun c => ?_, fun c => ?_⟩
      · rw [r1308] at c
        have c' := i_le rfl rfl c
        have cp0 : CP z3 zm (op0 st) bg := by
          refine CP_mv cp3 Same.rf cp3.2.2.2.1 (fun o ho => ?_) (fun o ho hs => ?_)
          · rw [cp3.2.2.2.2.1 o ho, opK_lt (by omega)]
          · exact cp3.2.2.2.2.2 o ho (by rw [opK_lt (by omega)]; exact hs)
        intro K6 hK6
        have L6 : ∀ (m : Nat) (v5 : Int32) (z7 : St), TX z7 → RX z7 → Same [] [10, 12, 19, 20] z z7 → 0 ≤ v5.toInt → v5.toInt ≤ (gI zm 12).toInt → CP z7 zm (eP zm (op0 st) bg v5.toNatClampNeg).1 (eP zm (op0 st) bg v5.toNatClampNeg).2 → (16 - v5.toInt).toNat < m → K6 v5 z7 := by
          intro m
          induction m with
          | zero => intro v5 z7 _ _ _ _ _ _ q; omega
          | succ m ih6 =>
            intro v5 z7 t7 x7 s7 k0 k1 cp7 km
            have cv5 := clampN k0
            have r1308' : gI z7 1308 = gI zm 12 := cp7.1.1.1
            refine hK6 v5 z7 ⟨fun cc => ?_, fun cc => ?_⟩
            · rw [r1308'] at cc
              have cc' := i_le rfl rfl cc
              rw [show v5.toNatClampNeg = (gI zm 12).toNatClampNeg by omega] at cp7
              refine v_X1_inState _ _ _ t7 (fun r hr => hk r z7 t7 x7 s7 cp7 ?_)
              rw [hr, r1308', cnt_co _ (fun o ho => cp7.2.2.2.2.1 o (by omega))]
            · rw [r1308'] at cc
              have cc' := i_nle rfl rfl cc
              have hv16 : vp_in v5 16 := vin rfl k0 (by omega)
              have f7 : 0 ≤ (gF zm 7 v5.toNatClampNeg).toInt ∧ (gF zm 7 v5.toNatClampNeg).toInt ≤ 167 := tm.2 7 _
              have f8 : 0 ≤ (gF zm 8 v5.toNatClampNeg).toInt ∧ (gF zm 8 v5.toNatClampNeg).toInt ≤ 167 := tm.2 8 _
              have f9 : 0 ≤ (gF zm 9 v5.toNatClampNeg).toInt ∧ (gF zm 9 v5.toNatClampNeg).toInt ≤ 4 := tm.2 9 _
              refine ⟨hv16, ?_⟩
              intro K12 hK12
              have next : ∀ z14 : St, TX z14 → RX z14 → Same [] [10, 12, 19, 20] z z14 → CP z14 zm (eP zm (op0 st) bg (v5.toNatClampNeg + 1)).1 (eP zm (op0 st) bg (v5.toNatClampNeg + 1)).2 → ∀ x15 : Int32, x15 = v5 + 1 → K6 x15 z14 := by
                intro z14 t14 x14 s14 cp14 x15 e15
                have i15 : x15.toInt = v5.toInt + 1 := by rw [e15]; exact a_add rfl rfl (by omega) (by omega)
                have c15 := clampN (x := x15) (by omega)
                exact ih6 x15 z14 t14 x14 s14 (by omega) (by omega) (by rw [show x15.toNatClampNeg = v5.toNatClampNeg + 1 by omega]; exact cp14) (by omega)
              have skip : ¬ ((eP zm (op0 st) bg v5.toNatClampNeg).1 v5.toNatClampNeg = 0 ∧ ¬ (chF zm (eP zm (op0 st) bg v5.toNatClampNeg).1 (eP zm (op0 st) bg v5.toNatClampNeg).2 v5.toNatClampNeg (wn zm v5.toNatClampNeg)).1 = -1) → eP zm (op0 st) bg (v5.toNatClampNeg + 1) = eP zm (op0 st) bg v5.toNatClampNeg := fun hn => pIf_f hn
              have m1 : ∀ s11 : Int32, s11 = -1 → (¬ ((eP zm (op0 st) bg v5.toNatClampNeg).1 v5.toNatClampNeg = 0 ∧ ¬ (chF zm (eP zm (op0 st) bg v5.toNatClampNeg).1 (eP zm (op0 st) bg v5.toNatClampNeg).2 v5.toNatClampNeg (wn zm v5.toNatClampNeg)).1 = -1)) → K12 s11 := by
                intro s11 h11 hn
                refine hK12 s11 ?_
                intro K13 hK13
                refine ⟨fun _ => hK13 z7 (next z7 t7 x7 s7 (by rw [skip hn]; exact cp7)), fun q => absurd h11 q⟩
              refine ⟨fun c0 => m1 _ rfl (fun q => c0 (by rw [cp7.2.2.2.2.1 _ (by omega)]; exact q.1)), fun c0 => ?_⟩
              have hs0 : (eP zm (op0 st) bg v5.toNatClampNeg).1 v5.toNatClampNeg = 0 := by rw [← cp7.2.2.2.2.1 _ (by omega)]; exact c0
              refine v_X2_cheapestHour _ _ zm _ _ _ t7 tm bd cp7 k0 cc' hs0 ?_
              by_cases hm : (chF zm (eP zm (op0 st) bg v5.toNatClampNeg).1 (eP zm (op0 st) bg v5.toNatClampNeg).2 v5.toNatClampNeg (wn zm v5.toNatClampNeg)).1 = -1
              · exact m1 _ hm (fun q => q.2 hm)
              · have hstep : eP zm (op0 st) bg (v5.toNatClampNeg + 1) = (upd (eP zm (op0 st) bg v5.toNatClampNeg).1 v5.toNatClampNeg 1, upd (eP zm (op0 st) bg v5.toNatClampNeg).2 v5.toNatClampNeg (chF zm (eP zm (op0 st) bg v5.toNatClampNeg).1 (eP zm (op0 st) bg v5.toNatClampNeg).2 v5.toNatClampNeg (wn zm v5.toNatClampNeg)).1) := pIf_t ⟨hs0, hm⟩
                rcases chF_in (st := (eP zm (op0 st) bg v5.toNatClampNeg).1) (bg := (eP zm (op0 st) bg v5.toNatClampNeg).2) (j := v5.toNatClampNeg) f7 (wn zm v5.toNatClampNeg) (by unfold wn; omega) with q | ⟨t, ht1, ht2, ht3, _⟩
                · exact absurd q.1 hm
                · have it : (nI t).toInt = (t : Int) := nI_toInt (by omega)
                  have a1 := ht3.2.1
                  have a2 := ht3.2.2.1
                  have a3 := ht3.2.2.2.1
                  refine hK12 _ ?_
                  intro K13 hK13
                  refine ⟨fun q => absurd q hm, fun _ => ?_⟩
                  rw [ht1]
                  refine v_X1_plan _ _ _ _ t7 x7 cp7.2.2.2.1 (by omega) (by omega) (by rw [r1308']; exact cc') (by rw [cp7.1.2.1.2.2.2.1]; omega) c0 (fun z17 t17 x17 p17 s17 a19 a20 => ?_)
                  refine hK13 z17 (next z17 t17 x17 (s7.tr s17 (by decide) (by decide)) ?_)
                  rw [hstep, ht1]
                  show CP z17 zm (upd (eP zm (op0 st) bg v5.toNatClampNeg).1 v5.toNatClampNeg 1) (upd (eP zm (op0 st) bg v5.toNatClampNeg).2 v5.toNatClampNeg (nI t))
                  refine CP_mv cp7 s17 p17 (fun o ho => ?_) (fun o ho hs => ?_)
                  · rw [a19]
                    by_cases e : o = v5.toNatClampNeg
                    · rw [e, upd_at, upd_at]
                    · rw [upd_ne e, upd_ne e]; exact cp7.2.2.2.2.1 o ho
                  · rw [a20]
                    by_cases e : o = v5.toNatClampNeg
                    · rw [e, upd_at, upd_at]
                    · rw [upd_ne e, upd_ne e]
                      rw [upd_ne e] at hs
                      exact cp7.2.2.2.2.2 o ho hs
        exact L6 _ 0 z3 t3 x3 s3 (by decide) f12.1 cp0 (Nat.lt_succ_self _)
      · rw [r1308] at c
        have c' := i_nle rfl rfl c
        have hst := cp3.2.2.2.2.1 v1.toNatClampNeg (by omega)
        rw [opK_ge (by omega)] at hst
        refine v_X1_reopen _ _ _ t3 x3 cp3.2.2.2.1 (by omega) (by rw [r1308]; exact c') (fun hn => ?_) (fun hp z22 t22 x22 p22 s22 a19 a20 => ?_)
        · intro x24 e24
          have i24 : x24.toInt = v1.toInt + 1 := by rw [e24]; exact a_add rfl rfl (by omega) (by omega)
          refine ih x24 z3 t3 x3 s3 (by omega) (by omega) ?_ (by omega)
          have hsame : ∀ o : Nat, opK st x24.toInt o = opK st v1.toInt o := by
            intro o
            by_cases e : o = v1.toNatClampNeg
            · rw [opK_lt (by omega), opK_ge (by omega), e]
              unfold op0
              rw [hst] at hn
              rw [if_neg hn]
            · by_cases e2 : (o : Int) < v1.toInt
              · rw [opK_lt e2, opK_lt (by omega)]
              · rw [opK_ge e2, opK_ge (by omega)]
          exact CP_mv cp3 Same.rf cp3.2.2.2.1 (fun o ho => by rw [hsame]; exact cp3.2.2.2.2.1 o ho) (fun o ho hs => cp3.2.2.2.2.2 o ho (by rw [← hsame]; exact hs))
        · intro x24 e24
          have i24 : x24.toInt = v1.toInt + 1 := by rw [e24]; exact a_add rfl rfl (by omega) (by omega)
          rw [hst] at hp
          refine ih x24 z22 t22 x22 (s3.tr s22 (by decide) (by decide)) (by omega) (by omega) (CP_mv cp3 s22 p22 (fun o ho => ?_) (fun o ho hs => ?_)) (by omega)
          · rw [a19]
            by_cases e : o = v1.toNatClampNeg
            · rw [e, upd_at, opK_lt (by omega)]
              unfold op0
              rw [if_pos hp]
            · rw [upd_ne e, cp3.2.2.2.2.1 o ho]
              by_cases e2 : (o : Int) < v1.toInt
              · rw [opK_lt e2, opK_lt (by omega)]
              · rw [opK_ge e2, opK_ge (by omega)]
          · rw [a20]
            by_cases e : o = v1.toNatClampNeg
            · rw [e, opK_lt (by omega)] at hs
              unfold op0 at hs
              rw [if_pos hp] at hs
              exact absurd rfl hs
            · rw [upd_ne e]
              refine cp3.2.2.2.2.2 o ho ?_
              by_cases e2 : (o : Int) < v1.toInt
              · rw [opK_lt e2]; rw [opK_lt (by omega)] at hs; exact hs
              · rw [opK_ge e2]; rw [opK_ge (by omega)] at hs; exact hs
  refine L1 _ 0 z ht hrx Same.rf (by decide) f12.1 ?_ (Nat.lt_succ_self _)
  refine CP_mv cp Same.rf cp.2.2.2.1 (fun o ho => ?_) (fun o ho hs => ?_)
  · rw [opK_ge (by have : (0 : Int32).toInt = 0 := rfl; omega)]; exact cp.2.2.2.2.1 o ho
  · rw [opK_ge (by have : (0 : Int32).toInt = 0 := rfl; omega)] at hs; exact cp.2.2.2.2.2 o ho hs
