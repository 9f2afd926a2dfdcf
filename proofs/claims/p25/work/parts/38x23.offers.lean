-- OFFERS, as sets of places
def Fi (zm : St) (oj : Nat → Nat) (i : Nat) : Nat := (gF zm 7 (oj i)).toNatClampNeg
/-- a place that job i may take while all others are open -/
def OFF (zm : St) (st bg : Nat → Int32) (oj : Nat → Nat) (i p : Nat) : Prop := MBg zm st bg (oj i) ((Fi zm oj i + p : Nat) : Int)
/-- the places below L of job i are offered, in the class's rows -/
def SDi (z zm : St) (st bg : Nat → Int32) (oj : Nat → Nat) (i L : Nat) : Prop := ((gF z 25 i).toInt ≤ (L : Int)) ∧ (∀ a : Nat, (a : Int) < (gF z 25 i).toInt → ∃ p, p < L ∧ OFF zm st bg oj i p ∧ gF z 26 (24 * i + a) = nI p) ∧ (∀ p, p < L → OFF zm st bg oj i p → ∃ a : Nat, (a : Int) < (gF z 25 i).toInt ∧ gF z 26 (24 * i + a) = nI p) ∧ (∀ a b : Nat, a < b → (b : Int) < (gF z 25 i).toInt → (gF z 26 (24 * i + a)).toInt < (gF z 26 (24 * i + b)).toInt) ∧ (∀ a : Nat, (a : Int) < (gF z 25 i).toInt → ∃ p, p < L ∧ OFF zm st bg oj i p ∧ gF z 27 (24 * i + a) = nI p) ∧ (∀ p, p < L → OFF zm st bg oj i p → ∃ a : Nat, (a : Int) < (gF z 25 i).toInt ∧ gF z 27 (24 * i + a) = nI p) ∧ (∀ a b : Nat, a < b → (b : Int) < (gF z 25 i).toInt → (gG z 28 (24 * i + (gF z 27 (24 * i + a)).toNatClampNeg)).toInt ≤ (gG z 28 (24 * i + (gF z 27 (24 * i + b)).toNatClampNeg)).toInt) ∧ (∀ p, p < L → OFF zm st bg oj i p → gG z 28 (24 * i + p) = ctM zm (oj i) (Fi zm oj i + p)) ∧ ∀ p, p < 32 → (bt (gF z 30 i) (nI p) ↔ p < L ∧ OFF zm st bg oj i p)
theorem SDi_skip {z zm : St} {st bg : Nat → Int32} {oj : Nat → Nat} {i L : Nat} (h : SDi z zm st bg oj i L) (hn : ¬ OFF zm st bg oj i L) : SDi z zm st bg oj i (L + 1) := by
  obtain ⟨a0, a1, a2, a3, a4, a5, a6, a7, a8⟩ := h
  have lt : ∀ p, p < L + 1 → OFF zm st bg oj i p → p < L := fun p hp ho => by
    by_cases e : p = L
    · rw [e] at ho; exact absurd ho hn
    · omega
  refine ⟨by omega, fun a ha => ?_, fun p hp ho => a2 p (lt p hp ho) ho, a3, fun a ha => ?_, fun p hp ho => a5 p (lt p hp ho) ho, a6, fun p hp ho => a7 p (lt p hp ho) ho, fun p hp => ?_⟩
  · obtain ⟨p, q1, q2, q3⟩ := a1 a ha
    exact ⟨p, by omega, q2, q3⟩
  · obtain ⟨p, q1, q2, q3⟩ := a4 a ha
    exact ⟨p, by omega, q2, q3⟩
  · rw [a8 p hp]
    exact ⟨fun q => ⟨by omega, q.2⟩, fun q => ⟨lt p q.1 q.2, q.2⟩⟩
set_option maxHeartbeats 1000000 in
theorem v_X6_offer (b1 b2 : Int32) (b3 : Int64) (z zm : St) (P : St → Prop) (st bg : Nat → Int32) (oj : Nat → Nat) (i L : Nat) (ht : TX z) (hi : b1 = nI i) (hi4 : i < 5) (hL : b2 = nI L) (hL24 : L < 24) (hb3 : b3 = ctM zm (oj i) (Fi zm oj i + L)) (sd : SDi z zm st bg oj i L) (ho : OFF zm st bg oj i L) (hk : ∀ z2 : St, TX z2 → Same [] [25, 26, 27, 30] z z2 → SDi z2 zm st bg oj i (L + 1) → (∀ k, k ≠ i → gF z2 25 k = gF z 25 k ∧ gF z2 30 k = gF z 30 k) → (∀ x : Nat, (x < 24 * i ∨ 24 * i + 24 ≤ x) → gF z2 26 x = gF z 26 x ∧ gF z2 27 x = gF z 27 x ∧ gG z2 28 x = gG z 28 x) → P z2) : wp_X6_offer b1 b2 b3 z P := by
  obtain ⟨a0, a1, a2, a3, a4, a5, a6, a7, a8⟩ := sd
  have ib : b1.toInt = (i : Int) := by rw [hi, nI_toInt (by omega)]
  have cb : b1.toNatClampNeg = i := by rw [hi, nI_clamp (by omega)]
  have iL : b2.toInt = (L : Int) := by rw [hL, nI_toInt (by omega)]
  have cL : b2.toNatClampNeg = L := by rw [hL, nI_clamp (by omega)]
  have f25 : 0 ≤ (gF z 25 i).toInt ∧ (gF z 25 i).toInt ≤ 24 := ht.2 25 _
  have c25 := clampN f25.1
  have hv5 : vp_in b1 5 := vin ib (by omega) (by omega)
  have hv30 : vp_in b1 30 := vin ib (by omega) (by omega)
  unfold wp_X6_offer
  intro x1 ex1
  have i1 : x1.toInt = (i : Int) * 24 := by rw [ex1]; exact a_mul ib rfl (by omega) (by omega)
  have ixL : (x1 + b2).toInt = (i : Int) * 24 + (L : Int) := a_add i1 iL (by omega) (by omega)
  have cxL := clampN (x := x1 + b2) (by omega)
  have exL : (x1 + b2).toNatClampNeg = 24 * i + L := by omega
  refine ⟨vin ixL (by omega) (by omega), ?_⟩
  rw [exL]
  intro z2 e2
  refine ⟨hv30, hv30, ?_⟩
  rw [cb]
  intro z3 e3
  have t2 : TX z2 := by rw [e2]; exact Ty_wL ht
  have t3 : TX z3 := by rw [e3]; exact Ty_wR t2 trivial
  have s3 : Same [] [25, 26, 27, 30] z z3 := (Same.rf.l e2).r (by decide) e3
  have q25 : gF z3 25 = gF z 25 := by rw [e3, e2]; rfl
  have q26 : gF z3 26 = gF z 26 := by rw [e3, e2]; rfl
  have q27 : gF z3 27 = gF z 27 := by rw [e3, e2]; rfl
  have q28 : gG z3 28 = vp_updL (gG z 28) (24 * i + L) b3 := by
    rw [e3]
    show gG z2 28 = _
    rw [e2, gG_wL]
  have q30 : ∀ k, gF z3 30 k = if k = i then gF z 30 i ||| ((1 : Int32) <<< (b2 &&& 31)) else gF z 30 k := by
    intro k
    rw [e3, gF_upd]
    have : gF z2 30 = gF z 30 := by rw [e2]; rfl
    rw [this]
  rw [q25, q26]
  have ix2 : (x1 + gF z 25 i).toInt = (i : Int) * 24 + (gF z 25 i).toInt := a_add i1 rfl (by omega) (by omega)
  have cx2 := clampN (x := x1 + gF z 25 i) (by omega)
  have ex2 : (x1 + gF z 25 i).toNatClampNeg = 24 * i + (gF z 25 i).toNatClampNeg := by omega
  refine ⟨hv5, vin ix2 (by omega) (by omega), ?_⟩
  rw [ex2]
  intro z4 e4
  have t4 : TX z4 := by rw [e4, ← q26]; exact Ty_wR t3 (show 0 ≤ b2.toInt ∧ b2.toInt ≤ 23 by omega)
  have s4 : Same [] [25, 26, 27, 30] z z4 := s3.r (by decide) e4
  have r25 : gF z4 25 = gF z 25 := by rw [e4]; exact q25
  have r27 : gF z4 27 = gF z 27 := by rw [e4]; exact q27
  have r28 : gG z4 28 = vp_updL (gG z 28) (24 * i + L) b3 := by rw [e4]; exact q28
  have r26 : ∀ x, gF z4 26 x = if x = 24 * i + (gF z 25 i).toNatClampNeg then b2 else gF z 26 x := by
    intro x
    rw [e4]
    show va_up z3.2.1 26 (upd (gF z 26) (24 * i + (gF z 25 i).toNatClampNeg) b2) 26 x = _
    unfold va_up
    rw [if_pos rfl]; rfl
  have r30 : ∀ k, gF z4 30 k = if k = i then gF z 30 i ||| ((1 : Int32) <<< (b2 &&& 31)) else gF z 30 k := by
    intro k
    rw [e4]; exact q30 k
  refine ⟨hv5, ?_⟩
  rw [r25]
  -- the costs of what is offered so far are as they were
  have ec : ∀ a : Nat, (a : Int) < (gF z 25 i).toInt → gG z4 28 (24 * i + (gF z 27 (24 * i + a)).toNatClampNeg) = gG z 28 (24 * i + (gF z 27 (24 * i + a)).toNatClampNeg) := by
    intro a ha
    obtain ⟨p, p1, p2, p3⟩ := a4 a ha
    rw [r28, p3, nI_clamp (by omega)]
    exact if_neg (by omega)
  intro K6 hK6
  have LL : ∀ (n : Nat) (v5 : Int32) (z7 : St), TX z7 → Same [] [27] z4 z7 → gG z7 28 = gG z4 28 → 0 ≤ v5.toInt → v5.toInt ≤ (gF z 25 i).toInt → (∀ x : Nat, (x < 24 * i ∨ 24 * i + 24 ≤ x) → gF z7 27 x = gF z 27 x) → (∀ a : Nat, (a : Int) ≤ (gF z 25 i).toInt → (a : Int) ≠ v5.toInt → gF z7 27 (24 * i + a) = if (a : Int) < v5.toInt then gF z 27 (24 * i + a) else gF z 27 (24 * i + (a - 1))) → (∀ a : Nat, v5.toInt ≤ (a : Int) → (a : Int) < (gF z 25 i).toInt → b3.toInt < (gG z 28 (24 * i + (gF z 27 (24 * i + a)).toNatClampNeg)).toInt) → v5.toInt.toNat < n → K6 v5 z7 := by
    intro n
    induction n with
    | zero => intro v5 z7 _ _ _ _ _ _ _ _ q; omega
    | succ n ih =>
      intro v5 z7 t7 s7 l7 g0 g1 hout hrow hgt gm
      have cv := clampN g0
      have iv : (x1 + v5).toInt = (i : Int) * 24 + v5.toInt := a_add i1 rfl (by omega) (by omega)
      have cx := clampN (x := x1 + v5) (by omega)
      have ev : (x1 + v5).toNatClampNeg = 24 * i + v5.toNatClampNeg := by omega
      have hxv : vp_in (x1 + v5) 120 := vin iv (by omega) (by omega)
      refine hK6 v5 z7 ?_
      intro K8 hK8
      -- the place goes to v5
      have hend : (∀ a : Nat, (a : Int) < v5.toInt → (gG z 28 (24 * i + (gF z 27 (24 * i + a)).toNatClampNeg)).toInt ≤ b3.toInt) → K8 := by
        intro hle
        refine hK8 ⟨hxv, ?_⟩
        rw [ev]
        intro z9 e9
        have t9 : TX z9 := by rw [e9]; exact Ty_wR t7 (show 0 ≤ b2.toInt ∧ b2.toInt ≤ 23 by omega)
        have u25 : gF z9 25 = gF z 25 := by rw [e9]; exact (s7.2 25 (by decide)).trans r25
        refine ⟨hv5, hv5, ?_⟩
        rw [u25]
        intro z10 e10
        have ia : (gF z 25 i + (1 : Int32)).toInt = (gF z 25 i).toInt + 1 := a_add rfl rfl (by omega) (by omega)
        have t10 : TX z10 := by rw [e10]; exact Ty_wRf t9 (fun k => by
          show 0 ≤ (upd (gF z 25) i (gF z 25 i + (1 : Int32)) k).toInt ∧ (upd (gF z 25) i (gF z 25 i + (1 : Int32)) k).toInt ≤ 24
          by_cases e : k = i
          · rw [e, upd_at]; omega
          · rw [upd_ne e]; exact ht.2 25 k)
        have s10 : Same [] [25, 26, 27, 30] z z10 := ((s4.tr s7 (by decide) (by decide)).r (by decide) e9).r (by decide) e10
        have w25 : gF z10 25 = upd (gF z 25) i (gF z 25 i + (1 : Int32)) := by rw [e10, gF_wR]
        have w25i : (gF z10 25 i).toInt = (gF z 25 i).toInt + 1 := by rw [w25, upd_at]; exact ia
        have w26 : gF z10 26 = gF z4 26 := by rw [e10, e9]; exact s7.2 26 (by decide)
        have w30 : gF z10 30 = gF z4 30 := by rw [e10, e9]; exact s7.2 30 (by decide)
        have w28 : gG z10 28 = gG z4 28 := by rw [e10, e9]; exact l7
        have w27 : ∀ x, gF z10 27 x = if x = 24 * i + v5.toNatClampNeg then b2 else gF z7 27 x := by
          intro x
          rw [e10]; show gF z9 27 x = _; rw [e9, gF_upd]
        have w27a : ∀ a : Nat, (a : Int) ≤ (gF z 25 i).toInt → gF z10 27 (24 * i + a) = if a = v5.toNatClampNeg then b2 else if (a : Int) < v5.toInt then gF z 27 (24 * i + a) else gF z 27 (24 * i + (a - 1)) := by
          intro a ha
          rw [w27]
          by_cases e : a = v5.toNatClampNeg
          · rw [if_pos (by omega), if_pos e]
          · rw [if_neg (by omega), if_neg e]; exact hrow a ha (by omega)
        have cL28 : gG z10 28 (24 * i + L) = b3 := by rw [w28, r28]; exact if_pos rfl
        have cO : ∀ a : Nat, (a : Int) < (gF z 25 i).toInt → gG z10 28 (24 * i + (gF z 27 (24 * i + a)).toNatClampNeg) = gG z 28 (24 * i + (gF z 27 (24 * i + a)).toNatClampNeg) := fun a ha => by rw [w28]; exact ec a ha
        refine hk z10 t10 s10 ⟨by rw [w25i]; omega, fun a ha => ?_, fun p hp hoff => ?_, fun a b hab hb => ?_, fun a ha => ?_, fun p hp hoff => ?_, fun a b hab hb => ?_, fun p hp hoff => ?_, fun p hp => ?_⟩ (fun k hki => ?_) (fun x hx => ?_)
        · rw [w25i] at ha
          rw [w26, r26]
          by_cases e : a = (gF z 25 i).toNatClampNeg
          · rw [if_pos (by omega)]; exact ⟨L, by omega, ho, hL⟩
          · rw [if_neg (by omega)]
            obtain ⟨p, q1, q2, q3⟩ := a1 a (by omega)
            exact ⟨p, by omega, q2, q3⟩
        · by_cases e : p = L
          · refine ⟨(gF z 25 i).toNatClampNeg, by rw [w25i]; omega, ?_⟩
            rw [w26, r26, if_pos rfl, e]; exact hL
          · obtain ⟨a, q1, q2⟩ := a2 p (by omega) hoff
            refine ⟨a, by rw [w25i]; omega, ?_⟩
            rw [w26, r26, if_neg (by omega)]; exact q2
        · rw [w25i] at hb
          rw [w26, r26, r26, if_neg (by omega)]
          by_cases e : b = (gF z 25 i).toNatClampNeg
          · rw [if_pos (by omega)]
            obtain ⟨p, q1, q2, q3⟩ := a1 a (by omega)
            rw [q3, nI_toInt (by omega)]; omega
          · rw [if_neg (by omega)]; exact a3 a b hab (by omega)
        · rw [w25i] at ha
          rw [w27a a (by omega)]
          by_cases e : a = v5.toNatClampNeg
          · rw [if_pos e]; exact ⟨L, by omega, ho, hL⟩
          · rw [if_neg e]
            by_cases e2 : (a : Int) < v5.toInt
            · rw [if_pos e2]
              obtain ⟨p, q1, q2, q3⟩ := a4 a (by omega)
              exact ⟨p, by omega, q2, q3⟩
            · rw [if_neg e2]
              obtain ⟨p, q1, q2, q3⟩ := a4 (a - 1) (by omega)
              exact ⟨p, by omega, q2, q3⟩
        · by_cases e : p = L
          · refine ⟨v5.toNatClampNeg, by rw [w25i]; omega, ?_⟩
            rw [w27a _ (by omega), if_pos rfl, e]; exact hL
          · obtain ⟨a, q1, q2⟩ := a5 p (by omega) hoff
            by_cases e2 : (a : Int) < v5.toInt
            · refine ⟨a, by rw [w25i]; omega, ?_⟩
              rw [w27a a (by omega), if_neg (by omega), if_pos e2]; exact q2
            · refine ⟨a + 1, by rw [w25i]; omega, ?_⟩
              rw [w27a (a + 1) (by omega), if_neg (by omega), if_neg (by omega), Nat.add_sub_cancel]; exact q2
        · rw [w25i] at hb
          rw [w27a a (by omega), w27a b (by omega)]
          by_cases ea : a = v5.toNatClampNeg
          · rw [if_pos ea, if_neg (by omega), if_neg (by omega), cL, cL28, cO (b - 1) (by omega)]
            have := hgt (b - 1) (by omega) (by omega)
            omega
          · rw [if_neg ea]
            by_cases eb : b = v5.toNatClampNeg
            · rw [if_pos eb, if_pos (by omega), cL, cL28, cO a (by omega)]
              exact hle a (by omega)
            · rw [if_neg eb]
              by_cases e2 : (b : Int) < v5.toInt
              · rw [if_pos e2, if_pos (by omega), cO a (by omega), cO b (by omega)]
                exact a6 a b hab (by omega)
              · rw [if_neg e2]
                by_cases e3 : (a : Int) < v5.toInt
                · rw [if_pos e3, cO a (by omega), cO (b - 1) (by omega)]
                  have h1 := hle a e3
                  have h2 := hgt (b - 1) (by omega) (by omega)
                  omega
                · rw [if_neg e3, cO (a - 1) (by omega), cO (b - 1) (by omega)]
                  exact a6 (a - 1) (b - 1) (by omega) (by omega)
        · by_cases e : p = L
          · rw [e, cL28]; exact hb3
          · rw [w28, r28]
            show (if 24 * i + p = 24 * i + L then b3 else gG z 28 (24 * i + p)) = _
            rw [if_neg (by omega)]
            exact a7 p (by omega) hoff
        · rw [w30, r30, if_pos rfl, hL, bt_set (by omega) (by omega), a8 p hp]
          constructor
          · rintro (q | q)
            · exact ⟨by omega, q.2⟩
            · exact ⟨by omega, by rw [q]; exact ho⟩
          · intro q
            by_cases e : p = L
            · exact Or.inr e
            · exact Or.inl ⟨by omega, q.2⟩
        · rw [w25, upd_ne hki, w30, r30, if_neg hki]; exact ⟨rfl, rfl⟩
        · refine ⟨?_, ?_, ?_⟩
          · rw [w26, r26, if_neg (by omega)]
          · rw [w27, if_neg (by omega)]; exact hout x hx
          · rw [w28, r28]
            show (if x = 24 * i + L then b3 else gG z 28 x) = _
            rw [if_neg (by omega)]
      refine ⟨fun c => hend (fun a ha => ?_), fun c => ?_⟩
      · have c' := i_le (q := 0) rfl rfl c
        omega
      · have c' := i_nle (q := 0) rfl rfl c
        have iw : (x1 + v5 - (1 : Int32)).toInt = (i : Int) * 24 + v5.toInt - 1 := a_sub iv rfl (by omega) (by omega)
        have cw := clampN (x := x1 + v5 - (1 : Int32)) (by omega)
        have ew : (x1 + v5 - (1 : Int32)).toNatClampNeg = 24 * i + (v5.toNatClampNeg - 1) := by omega
        have hw : vp_in (x1 + v5 - (1 : Int32)) 120 := vin iw (by omega) (by omega)
        have hval : gF z7 27 (24 * i + (v5.toNatClampNeg - 1)) = gF z 27 (24 * i + (v5.toNatClampNeg - 1)) := by
          rw [hrow (v5.toNatClampNeg - 1) (by omega) (by omega), if_pos (by omega)]
        obtain ⟨p, p1, p2, p3⟩ := a4 (v5.toNatClampNeg - 1) (by omega)
        have f27 : 0 ≤ (gF z7 27 (24 * i + (v5.toNatClampNeg - 1))).toInt ∧ (gF z7 27 (24 * i + (v5.toNatClampNeg - 1))).toInt ≤ 23 := t7.2 27 _
        have ip : (gF z7 27 (24 * i + (v5.toNatClampNeg - 1))).toInt = (p : Int) := by rw [hval, p3, nI_toInt (by omega)]
        have ixp : (x1 + gF z7 27 (24 * i + (v5.toNatClampNeg - 1))).toInt = (i : Int) * 24 + (p : Int) := a_add i1 ip (by omega) (by omega)
        have cxp := clampN (x := x1 + gF z7 27 (24 * i + (v5.toNatClampNeg - 1))) (by omega)
        have exp : (x1 + gF z7 27 (24 * i + (v5.toNatClampNeg - 1))).toNatClampNeg = 24 * i + (gF z 27 (24 * i + (v5.toNatClampNeg - 1))).toNatClampNeg := by rw [p3, nI_clamp (by omega)]; omega
        rw [ew]
        refine ⟨hw, vin ixp (by omega) (by omega), ?_⟩
        rw [exp, l7, ec (v5.toNatClampNeg - 1) (by omega)]
        refine ⟨fun cl => hend (fun a ha => ?_), fun cl => ⟨hw, hxv, ?_⟩⟩
        · have h1 : ¬ b3.toInt < (gG z 28 (24 * i + (gF z 27 (24 * i + (v5.toNatClampNeg - 1))).toNatClampNeg)).toInt := fun q => Int32.not_lt.mpr cl (lgc_gt.mpr q)
          by_cases e : a = v5.toNatClampNeg - 1
          · rw [e]; omega
          · have := a6 a (v5.toNatClampNeg - 1) (by omega) (by omega)
            omega
        · rw [ev]
          intro z13 e13 x14 e14
          have i14 : x14.toInt = v5.toInt - 1 := by rw [e14]; exact a_add rfl (show (-1 : Int32).toInt = -1 from rfl) (by omega) (by omega)
          have hgt1 := lgc_gt.mp (Int32.not_le.mp cl)
          refine ih x14 z13 (by rw [e13]; exact Ty_wR t7 f27) (s7.r (by decide) e13) (by rw [e13]; exact l7) (by omega) (by omega) (fun x hx => ?_) (fun a h1 h2 => ?_) (fun a h1 h2 => ?_) (by omega)
          · rw [e13, gF_upd, if_neg (by omega)]; exact hout x hx
          · rw [e13, gF_upd]
            by_cases e : a = v5.toNatClampNeg
            · rw [if_pos (by omega), if_neg (by omega), hval, e]
            · rw [if_neg (by omega), hrow a h1 (by omega)]
              by_cases e2 : (a : Int) < v5.toInt
              · rw [if_pos e2, if_pos (by omega)]
              · rw [if_neg e2, if_neg (by omega)]
          · by_cases e : a = v5.toNatClampNeg - 1
            · rw [e]; exact hgt1
            · exact hgt a (by omega) h2
  intro x15 e15
  refine LL _ x15 z4 t4 Same.rf rfl (by rw [e15]; omega) (by rw [e15]; omega) (fun x _ => by rw [r27]) (fun a h1 h2 => ?_) (fun a h1 h2 => by rw [e15] at h1; omega) (Nat.lt_succ_self _)
  rw [e15] at h2 ⊢
  rw [r27, if_pos (by omega)]
/-- the offers of job i, without its bits -/
def SDr (z zm : St) (st bg : Nat → Int32) (oj : Nat → Nat) (i : Nat) : Prop := ((gF z 25 i).toInt ≤ 24) ∧ (∀ a : Nat, (a : Int) < (gF z 25 i).toInt → ∃ p, p < 24 ∧ OFF zm st bg oj i p ∧ gF z 26 (24 * i + a) = nI p) ∧ (∀ p, p < 24 → OFF zm st bg oj i p → ∃ a : Nat, (a : Int) < (gF z 25 i).toInt ∧ gF z 26 (24 * i + a) = nI p) ∧ (∀ a b : Nat, a < b → (b : Int) < (gF z 25 i).toInt → (gF z 26 (24 * i + a)).toInt < (gF z 26 (24 * i + b)).toInt) ∧ (∀ a : Nat, (a : Int) < (gF z 25 i).toInt → ∃ p, p < 24 ∧ OFF zm st bg oj i p ∧ gF z 27 (24 * i + a) = nI p) ∧ (∀ p, p < 24 → OFF zm st bg oj i p → ∃ a : Nat, (a : Int) < (gF z 25 i).toInt ∧ gF z 27 (24 * i + a) = nI p) ∧ (∀ a b : Nat, a < b → (b : Int) < (gF z 25 i).toInt → (gG z 28 (24 * i + (gF z 27 (24 * i + a)).toNatClampNeg)).toInt ≤ (gG z 28 (24 * i + (gF z 27 (24 * i + b)).toNatClampNeg)).toInt) ∧ (∀ p, p < 24 → OFF zm st bg oj i p → gG z 28 (24 * i + p) = ctM zm (oj i) (Fi zm oj i + p))
theorem SDi_r {z zm : St} {st bg : Nat → Int32} {oj : Nat → Nat} {i : Nat} (h : SDi z zm st bg oj i 24) : SDr z zm st bg oj i := by
  obtain ⟨a0, a1, a2, a3, a4, a5, a6, a7, _⟩ := h
  exact ⟨by omega, a1, a2, a3, a4, a5, a6, a7⟩
theorem SDr_mv {z z2 zm : St} {st bg : Nat → Int32} {oj : Nat → Nat} {i : Nat} {I F : List Nat} (h : SDr z zm st bg oj i) (s : Same I F z z2) (h25 : 25 ∉ F) (h26 : 26 ∉ F) (h27 : 27 ∉ F) (h28 : gG z2 28 = gG z 28) : SDr z2 zm st bg oj i := by
  unfold SDr
  rw [s.2 25 h25, s.2 26 h26, s.2 27 h27, h28]
  exact h
