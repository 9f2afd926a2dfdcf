-- ALL AT ONCE: what the class's search makes of the plan
theorem v_fill_25 (z : St) (P : St → Prop) (ht : TX z) (hk : ∀ (z2 : St), TX z2 → Same [] [25] z z2 → (∀ x : Nat, x < 5 → gF z2 25 x = 0) → P z2) : wp_J7_fill_53178_25 0 z P := by
  have e00 : (0 : Int32).toInt = 0 := rfl
  have e05 : (5 : Int32).toInt = 5 := rfl
  unfold wp_J7_fill_53178_25
  intro K3 hK3
  have L : ∀ (n : Nat) (v1 : Int32) (z4 : St), TX z4 → Same [] [25] z z4 → 0 ≤ v1.toInt → v1.toInt ≤ 5 → (∀ x : Nat, (x : Int) < v1.toInt → gF z4 25 x = 0) → (5 - v1.toInt).toNat < n → K3 v1 5 z4 := by
    intro n
    induction n with
    | zero => intro v1 z4 _ _ _ _ _ q; omega
    | succ n ih =>
      intro v1 z4 t4 s4 g0 g1 gz gm
      refine hK3 v1 5 z4 ⟨fun c => hk z4 t4 s4 (fun x hx => gz x (by have := i_le (p := 5) rfl rfl c; omega)), fun c => ?_⟩
      have c' := i_nle (p := 5) rfl rfl c
      have cv := clampN g0
      refine ⟨vin rfl g0 (by omega), ?_⟩
      intro z6 e6 x7 e7
      have i7 : x7.toInt = v1.toInt + 1 := by rw [e7]; exact a_add rfl rfl (by omega) (by omega)
      refine ih x7 z6 (by rw [e6]; exact Ty_wR t4 (show 0 ≤ (0 : Int32).toInt ∧ (0 : Int32).toInt ≤ 24 by decide)) (s4.r (by decide) e6) (by omega) (by omega) (fun x hx => ?_) (by omega)
      rw [e6, gF_upd]
      by_cases e : x = v1.toNatClampNeg
      · rw [if_pos e]
      · rw [if_neg e]; exact gz x (by omega)
  exact L 6 0 z ht Same.rf (by omega) (by omega) (fun x hx => by omega) (by omega)
theorem v_fill_30 (z : St) (P : St → Prop) (ht : TX z) (hk : ∀ (z2 : St), TX z2 → Same [] [30] z z2 → (∀ x : Nat, x < 30 → gF z2 30 x = 0) → P z2) : wp_J7_fill_53178_30 0 z P := by
  have e00 : (0 : Int32).toInt = 0 := rfl
  have e05 : (30 : Int32).toInt = 30 := rfl
  unfold wp_J7_fill_53178_30
  intro K3 hK3
  have L : ∀ (n : Nat) (v1 : Int32) (z4 : St), TX z4 → Same [] [30] z z4 → 0 ≤ v1.toInt → v1.toInt ≤ 30 → (∀ x : Nat, (x : Int) < v1.toInt → gF z4 30 x = 0) → (30 - v1.toInt).toNat < n → K3 v1 30 z4 := by
    intro n
    induction n with
    | zero => intro v1 z4 _ _ _ _ _ q; omega
    | succ n ih =>
      intro v1 z4 t4 s4 g0 g1 gz gm
      refine hK3 v1 30 z4 ⟨fun c => hk z4 t4 s4 (fun x hx => gz x (by have := i_le (p := 30) rfl rfl c; omega)), fun c => ?_⟩
      have c' := i_nle (p := 30) rfl rfl c
      have cv := clampN g0
      refine ⟨vin rfl g0 (by omega), ?_⟩
      intro z6 e6 x7 e7
      have i7 : x7.toInt = v1.toInt + 1 := by rw [e7]; exact a_add rfl rfl (by omega) (by omega)
      refine ih x7 z6 (by rw [e6]; exact Ty_wR t4 trivial) (s4.r (by decide) e6) (by omega) (by omega) (fun x hx => ?_) (by omega)
      rw [e6, gF_upd]
      by_cases e : x = v1.toNatClampNeg
      · rw [if_pos e]
      · rw [if_neg e]; exact gz x (by omega)
  exact L 31 0 z ht Same.rf (by omega) (by omega) (fun x hx => by omega) (by omega)
theorem v_fill_29 (z : St) (P : St → Prop) (ht : TX z) (hk : ∀ (z2 : St), TX z2 → Same [] [29] z z2 → (∀ x : Nat, x < 600 → gF z2 29 x = 0) → P z2) : wp_J7_fill_53178_29 0 z P := by
  have e00 : (0 : Int32).toInt = 0 := rfl
  have e05 : (600 : Int32).toInt = 600 := rfl
  unfold wp_J7_fill_53178_29
  intro K3 hK3
  have L : ∀ (n : Nat) (v1 : Int32) (z4 : St), TX z4 → Same [] [29] z z4 → 0 ≤ v1.toInt → v1.toInt ≤ 600 → (∀ x : Nat, (x : Int) < v1.toInt → gF z4 29 x = 0) → (600 - v1.toInt).toNat < n → K3 v1 600 z4 := by
    intro n
    induction n with
    | zero => intro v1 z4 _ _ _ _ _ q; omega
    | succ n ih =>
      intro v1 z4 t4 s4 g0 g1 gz gm
      refine hK3 v1 600 z4 ⟨fun c => hk z4 t4 s4 (fun x hx => gz x (by have := i_le (p := 600) rfl rfl c; omega)), fun c => ?_⟩
      have c' := i_nle (p := 600) rfl rfl c
      have cv := clampN g0
      refine ⟨vin rfl g0 (by omega), ?_⟩
      intro z6 e6 x7 e7
      have i7 : x7.toInt = v1.toInt + 1 := by rw [e7]; exact a_add rfl rfl (by omega) (by omega)
      refine ih x7 z6 (by rw [e6]; exact Ty_wR t4 trivial) (s4.r (by decide) e6) (by omega) (by omega) (fun x hx => ?_) (by omega)
      rw [e6, gF_upd]
      by_cases e : x = v1.toNatClampNeg
      · rw [if_pos e]
      · rw [if_neg e]; exact gz x (by omega)
  exact L 601 0 z ht Same.rf (by omega) (by omega) (fun x hx => by omega) (by omega)
theorem v_X6_clear (z : St) (P : St → Prop) (ht : TX z) (hk : ∀ (z2 : St), TX z2 → Same [2213] [25, 29, 30] z z2 → (gI z2 2213).toInt = 0 → (∀ x : Nat, x < 5 → gF z2 25 x = 0) → (∀ x : Nat, x < 30 → gF z2 30 x = 0) → (∀ x : Nat, x < 600 → gF z2 29 x = 0) → P z2) : wp_X6_clear z P := by
  unfold wp_X6_clear
  intro z1 e1
  have t1 : TX z1 := by rw [e1]; exact Ty_wI ht (show 0 ≤ (0 : Int32).toInt ∧ (0 : Int32).toInt ≤ 5 by decide)
  have s1 : Same [2213] [25, 29, 30] z z1 := Same.rf.i (by decide) e1
  refine v_fill_25 z1 _ t1 (fun z2 t2 s2 g2 => ?_)
  refine v_fill_30 _ _ t2 (fun z4 t4 s4 g4 => ?_)
  refine v_fill_29 _ _ t4 (fun z6 t6 s6 g6 => ?_)
  refine hk z6 t6 (((s1.tr s2 (by decide) (by decide)).tr s4 (by decide) (by decide)).tr s6 (by decide) (by decide)) ?_ (fun x hx => ?_) (fun x hx => ?_) g6
  · rw [s6.1 2213 (by decide), s4.1 2213 (by decide), s2.1 2213 (by decide), e1]; rfl
  · rw [s6.2 25 (by decide), s4.2 25 (by decide)]; exact g2 x hx
  · rw [s6.2 30 (by decide)]; exact g4 x hx
theorem v_X6_addJob (b1 b2 : Int32) (z : St) (P : St → Prop) (n : Nat) (ht : TX z) (h0 : 0 ≤ b1.toInt ∧ b1.toInt ≤ 15) (h1 : -1 ≤ b2.toInt ∧ b2.toInt ≤ 167) (hn : (gI z 2213).toInt = (n : Int)) (h5 : n < 5) (hk : ∀ (z2 : St), TX z2 → Same [2213] [23, 24] z z2 → (gI z2 2213).toInt = (n : Int) + 1 → (∀ j : Nat, gF z2 23 j = if j = n then b1 else gF z 23 j) → (∀ j : Nat, gF z2 24 j = if j = n then b2 else gF z 24 j) → P z2) : wp_X6_addJob b1 b2 z P := by
  have cs := clampN (x := gI z 2213) (by omega)
  have ec : (gI z 2213).toNatClampNeg = n := by omega
  unfold wp_X6_addJob
  refine ⟨fun c => ?_, fun _ => ?_⟩
  · have c' := i_le (p := 5) rfl rfl c
    omega
  have hv : vp_in (gI z 2213) 5 := vin hn (by omega) (by omega)
  refine ⟨hv, ?_⟩
  rw [ec]
  intro z2 e2
  have q2 : gI z2 2213 = gI z 2213 := by rw [e2]; rfl
  refine ⟨by rw [q2]; exact hv, ?_⟩
  intro z3 e3 z4 e4
  rw [q2, ec] at e3
  have q3 : gI z3 2213 = gI z 2213 := by rw [e3]; exact q2
  have t2 : TX z2 := by rw [e2]; exact Ty_wR ht h0
  have t3 : TX z3 := by rw [e3]; exact Ty_wR t2 h1
  have i4 : (gI z3 2213 + (1 : Int32)).toInt = (n : Int) + 1 := by rw [q3]; exact a_add hn rfl (by omega) (by omega)
  have t4 : TX z4 := by rw [e4]; exact Ty_wI t3 (show 0 ≤ (gI z3 2213 + (1 : Int32)).toInt ∧ (gI z3 2213 + (1 : Int32)).toInt ≤ 5 by omega)
  have s4 : Same [2213] [23, 24] z z4 := ((Same.rf.r (by decide) e2).r (by decide) e3).i (by decide) e4
  refine hk z4 t4 s4 ?_ (fun j => ?_) (fun j => ?_)
  · rw [e4]; exact i4
  · rw [e4, e3]; show gF z2 23 j = _; rw [e2, gF_upd]
  · rw [e4]; show gF z3 24 j = _; rw [e3, gF_upd, e2]; rfl
theorem ojC_all (st : Nat → Int32) : ∀ m o, o < m → ¬ st o = 2 → ∃ i, i < (ojC st m).1 ∧ (ojC st m).2 i = o := by
  intro m
  induction m with
  | zero => intro o h; omega
  | succ m ih =>
    intro o ho hs
    by_cases c : st m = 2
    · have e : o ≠ m := fun q => hs (by rw [q]; exact c)
      rw [ojC_y c]
      exact ih o (by omega) hs
    · rw [ojC_n c]
      by_cases e : o = m
      · refine ⟨(ojC st m).1, Nat.lt_succ_self _, ?_⟩
        show (if (ojC st m).1 = (ojC st m).1 then m else (ojC st m).2 (ojC st m).1) = o
        rw [if_pos rfl, e]
      · obtain ⟨i, h1, h2⟩ := ih o (by omega) hs
        refine ⟨i, Nat.lt_succ_of_lt h1, ?_⟩
        show (if i = (ojC st m).1 then m else (ojC st m).2 i) = o
        rw [if_neg (by omega), h2]
theorem opK_sk {st : Nat → Int32} {v : Nat} (h : ¬ st v = 1) : opK st ((v + 1 : Nat) : Int) = opK st (v : Int) := by
  funext o
  by_cases e : o = v
  · rw [opK_lt (by omega), opK_ge (by omega), e]
    unfold op0
    rw [if_neg h]
  · by_cases e2 : (o : Int) < (v : Int)
    · rw [opK_lt e2, opK_lt (by omega)]
    · rw [opK_ge e2, opK_ge (by omega)]
/-- the jobs before v that are not done are laid out, and open -/
def TI (z zm : St) (st bg : Nat → Int32) (v : Nat) (z5 : St) : Prop := TX z5 ∧ RX z5 ∧ Same FPI FPF z z5 ∧ CP z5 zm (opK st (v : Int)) bg ∧ (gI z5 2213).toInt = ((ojC st v).1 : Int) ∧ (∀ i, i < (ojC st v).1 → gF z5 23 i = nI ((ojC st v).2 i) ∧ gF z5 24 i = gF z 20 ((ojC st v).2 i)) ∧ ((∀ x, x < 5 → gF z5 25 x = 0) ∧ (∀ x, x < 30 → gF z5 30 x = 0) ∧ ∀ x, x < 600 → gF z5 29 x = 0) ∧ ∀ o : Nat, v ≤ o → gF z5 20 o = gF z 20 o
theorem TI_skip {z zm z5 : St} {st bg : Nat → Int32} {v : Nat} (h : TI z zm st bg v z5) (h2 : st v = 2) : TI z zm st bg (v + 1) z5 := by
  obtain ⟨a1, a2, a3, a4, a5, a6, a7, a8⟩ := h
  refine ⟨a1, a2, a3, ?_, ?_, ?_, a7, fun o ho => a8 o (by omega)⟩
  · rw [opK_sk (by rw [h2]; decide)]; exact a4
  · rw [ojC_y h2]; exact a5
  · rw [ojC_y h2]; exact a6
theorem TI_add {z zm z5 z43 z45 : St} {st bg : Nat → Int32} {v : Nat} (h : TI z zm st bg v z5) (hn : ¬ st v = 2) (s : Same [2213] [23, 24] z5 z43) (n1 : (gI z43 2213).toInt = ((ojC st v).1 : Int) + 1) (g23 : ∀ j : Nat, gF z43 23 j = if j = (ojC st v).1 then nI v else gF z5 23 j) (g24 : ∀ j : Nat, gF z43 24 j = if j = (ojC st v).1 then gF z5 20 v else gF z5 24 j) (s2 : Same [] [10, 12, 19, 20] z43 z45) (t : TX z45) (x : RX z45) (cp : CP z45 zm (opK st ((v + 1 : Nat) : Int)) bg) (k : ∀ o : Nat, v + 1 ≤ o → gF z45 20 o = gF z43 20 o) : TI z zm st bg (v + 1) z45 := by
  obtain ⟨a1, a2, a3, a4, a5, a6, ⟨b1, b2, b3⟩, a8⟩ := h
  refine ⟨t, x, (a3.tr s (by decide) (by decide)).tr s2 (by decide) (by decide), cp, ?_, fun i hi => ?_, ⟨fun y hy => ?_, fun y hy => ?_, fun y hy => ?_⟩, fun o ho => ?_⟩
  · rw [s2.1 2213 (by decide), n1, ojC_n hn]
    show _ = (((ojC st v).1 + 1 : Nat) : Int)
    omega
  · rw [ojC_n hn] at hi ⊢
    have hi' : i < (ojC st v).1 + 1 := hi
    rw [s2.2 23 (by decide), s2.2 24 (by decide), g23, g24]
    show (if i = (ojC st v).1 then nI v else gF z5 23 i) = nI (if i = (ojC st v).1 then v else (ojC st v).2 i) ∧ (if i = (ojC st v).1 then gF z5 20 v else gF z5 24 i) = gF z 20 (if i = (ojC st v).1 then v else (ojC st v).2 i)
    by_cases e : i = (ojC st v).1
    · rw [if_pos e, if_pos e, if_pos e]; exact ⟨rfl, a8 v (Nat.le_refl _)⟩
    · rw [if_neg e, if_neg e, if_neg e]; exact a6 i (by omega)
  · rw [s2.2 25 (by decide), s.2 25 (by decide)]; exact b1 y hy
  · rw [s2.2 30 (by decide), s.2 30 (by decide)]; exact b2 y hy
  · rw [s2.2 29 (by decide), s.2 29 (by decide)]; exact b3 y hy
  · rw [k o ho, s.2 20 (by decide)]; exact a8 o (by omega)
theorem TI_end {z zm z5 : St} {st bg : Nat → Int32} (tm : TM zm) (h : TI z zm st bg (gI zm 12).toNatClampNeg z5) : CP z5 zm (op0 st) bg := by
  have f12 : 0 ≤ (gI zm 12).toInt ∧ (gI zm 12).toInt ≤ 16 := tm.1 12
  have c12 := clampN f12.1
  have cp := h.2.2.2.1
  refine CP_mv cp Same.rf cp.2.2.2.1 (fun o ho => ?_) (fun o ho hs => ?_)
  · rw [cp.2.2.2.2.1 o ho, opK_lt (by omega)]
  · exact cp.2.2.2.2.2 o ho (by rw [opK_lt (by omega)]; exact hs)
theorem SDi_0 {z zm : St} {st bg : Nat → Int32} {oj : Nat → Nat} {i : Nat} (h25 : gF z 25 i = 0) (h30 : gF z 30 i = 0) : SDi z zm st bg oj i 0 := by
  have e0 : (gF z 25 i).toInt = 0 := by rw [h25]; rfl
  refine ⟨by omega, fun a ha => by omega, fun p hp => absurd hp (Nat.not_lt_zero _), fun a b _ hb => by omega, fun a ha => by omega, fun p hp => absurd hp (Nat.not_lt_zero _), fun a b _ hb => by omega, fun p hp => absurd hp (Nat.not_lt_zero _), fun p _ => ?_⟩
  rw [h30]
  exact ⟨fun h => absurd h bt_no, fun h => absurd h.1 (Nat.not_lt_zero _)⟩
theorem SDi_out {z z2 zm : St} {st bg : Nat → Int32} {oj : Nat → Nat} {k : Nat} (h : SDi z zm st bg oj k 24) (e25 : gF z2 25 k = gF z 25 k) (e30 : gF z2 30 k = gF z 30 k) (e : ∀ x, 24 * k ≤ x → x < 24 * k + 24 → gF z2 26 x = gF z 26 x ∧ gF z2 27 x = gF z 27 x ∧ gG z2 28 x = gG z 28 x) : SDi z2 zm st bg oj k 24 := by
  obtain ⟨a0, a1, a2, a3, a4, a5, a6, a7, a8⟩ := h
  have i27 : ∀ a : Nat, (a : Int) < (gF z 25 k).toInt → gG z2 28 (24 * k + (gF z2 27 (24 * k + a)).toNatClampNeg) = gG z 28 (24 * k + (gF z 27 (24 * k + a)).toNatClampNeg) := by
    intro a ha
    obtain ⟨p, p1, p2, p3⟩ := a4 a ha
    rw [(e (24 * k + a) (by omega) (by omega)).2.1, p3, nI_clamp (by omega)]
    exact (e (24 * k + p) (by omega) (by omega)).2.2
  refine ⟨by rw [e25]; exact a0, fun a ha => ?_, fun p hp ho => ?_, fun a b hab hb => ?_, fun a ha => ?_, fun p hp ho => ?_, fun a b hab hb => ?_, fun p hp ho => ?_, fun p hp => by rw [e30]; exact a8 p hp⟩
  · rw [e25] at ha
    rw [(e (24 * k + a) (by omega) (by omega)).1]; exact a1 a ha
  · obtain ⟨a, q1, q2⟩ := a2 p hp ho
    exact ⟨a, by rw [e25]; exact q1, by rw [(e (24 * k + a) (by omega) (by omega)).1]; exact q2⟩
  · rw [e25] at hb
    rw [(e (24 * k + a) (by omega) (by omega)).1, (e (24 * k + b) (by omega) (by omega)).1]; exact a3 a b hab hb
  · rw [e25] at ha
    rw [(e (24 * k + a) (by omega) (by omega)).2.1]; exact a4 a ha
  · obtain ⟨a, q1, q2⟩ := a5 p hp ho
    exact ⟨a, by rw [e25]; exact q1, by rw [(e (24 * k + a) (by omega) (by omega)).2.1]; exact q2⟩
  · rw [e25] at hb
    rw [i27 a (by omega), i27 b hb]; exact a6 a b hab hb
  · rw [(e (24 * k + p) (by omega) (by omega)).2.2]; exact a7 p hp ho
theorem CP_tw {z z2 zm : St} {st bg : Nat → Int32} (h : CP z zm st bg) (tw : TWF z z2) : CP z2 zm st bg := by
  obtain ⟨t, s, a, b⟩ := tw
  have px : PE z (gI z 1308).toNatClampNeg (gF z 14) (gF z 17) (gF z 18) (gF z 19) (gF z 20) := h.2.2.2.1
  refine ⟨SE_mv h.1 s (by decide) (by decide) (by decide) (by decide) (by decide) (by decide) (by decide) (by decide) (by decide) (by decide) (by decide) (by decide), RE_mv h.2.1 s (by decide) (by decide) (by decide) (by decide), TD_mv h.2.2.1 s (by decide), ?_, fun o ho => ?_, fun o ho hs => ?_⟩
  · unfold PX
    rw [s.1 1308 (by decide), s.2 14 (by decide), s.2 17 (by decide), s.2 18 (by decide), s.2 19 (by decide), s.2 20 (by decide)]
    exact PE_lo px a b
  · rw [s.2 19 (by decide)]; exact h.2.2.2.2.1 o ho
  · rw [s.2 20 (by decide)]; exact h.2.2.2.2.2 o ho hs
/-- laid out: the jobs, their former begins, all of them open -/
def TS (z zm : St) (st bg : Nat → Int32) (oj : Nat → Nat) (n : Nat) (z5 : St) : Prop := TX z5 ∧ RX z5 ∧ Same FPI FPF z z5 ∧ CP z5 zm (op0 st) bg ∧ (gI z5 2213).toInt = (n : Int) ∧ ∀ i, i < n → gF z5 23 i = nI (oj i) ∧ gF z5 24 i = gF z 20 (oj i)
theorem TS_mv {z zm z5 z6 : St} {st bg : Nat → Int32} {oj : Nat → Nat} {n : Nat} {I F : List Nat} (h : TS z zm st bg oj n z5) (t : TX z6) (s : Same I F z5 z6) (cp : CP z6 zm (op0 st) bg) (hI : ∀ x ∈ I, x ∈ FPI) (hF : ∀ x ∈ F, x ∈ FPF) (h22 : 2213 ∉ I) (h13 : 1308 ∉ I) (hG : ∀ x ∈ [15, 16, 17, 19, 20, 23, 24], x ∉ F) : TS z zm st bg oj n z6 := by
  obtain ⟨a1, a2, a3, a4, a5, a6⟩ := h
  refine ⟨t, RX_same a2 s h13 (hG _ (by decide)) (hG _ (by decide)) (hG _ (by decide)) (hG _ (by decide)) (hG _ (by decide)), a3.tr s hI hF, cp, by rw [s.1 2213 h22]; exact a5, fun i hi => ?_⟩
  rw [s.2 23 (hG _ (by decide)), s.2 24 (hG _ (by decide))]
  exact a6 i hi
/-- the former states come back, one by one -/
def rS (st : Nat → Int32) (oj : Nat → Nat) : Nat → Nat → Int32
  | 0 => op0 st
  | i + 1 => upd (rS st oj i) (oj i) (st (oj i))
theorem rS_out {st : Nat → Int32} {oj : Nat → Nat} {j : Nat} : ∀ i, (∀ l, l < i → oj l ≠ j) → rS st oj i j = op0 st j := by
  intro i
  induction i with
  | zero => intro _; rfl
  | succ i ih =>
    intro h
    show upd (rS st oj i) (oj i) (st (oj i)) j = _
    rw [upd_ne (fun e => h i (by omega) e.symm), ih (fun l hl => h l (by omega))]
theorem rS_in {st : Nat → Int32} {oj : Nat → Nat} {n l : Nat} (hr : Rise oj n) : ∀ i, i ≤ n → l < i → rS st oj i (oj l) = st (oj l) := by
  intro i
  induction i with
  | zero => intro _ h; omega
  | succ i ih =>
    intro hn hl
    show upd (rS st oj i) (oj i) (st (oj i)) (oj l) = _
    by_cases e : l = i
    · rw [e, upd_at]
    · have := hr l i (by omega) (by omega)
      rw [upd_ne (by omega)]; exact ih (by omega) (by omega)
/-- with all of them back, the states are the former ones -/
theorem rS_all (st : Nat → Int32) (N o : Nat) (ho : o < N) : rS st (ojC st N).2 (ojC st N).1 o = st o := by
  have hok := ojC_ok st N
  by_cases c : st o = 2
  · rw [rS_out _ (fun l hl e => (hok.2.2 l hl).2 (by rw [e]; exact c))]
    unfold op0
    rw [if_neg (by rw [c]; decide)]
  · obtain ⟨i, h1, h2⟩ := ojC_all st N o ho c
    rw [← h2]
    exact rS_in hok.2.1 _ (Nat.le_refl _) h1
theorem CP_co {z zm : St} {st bg st' : Nat → Int32} (h : CP z zm st bg) (e : ∀ o : Nat, (o : Int) < (gI zm 12).toInt → st' o = st o) : CP z zm st' bg :=
  CP_mv h Same.rf h.2.2.2.1 (fun o ho => by rw [e o ho]; exact h.2.2.2.2.1 o ho) (fun o ho hs => h.2.2.2.2.2 o ho (by rw [← e o ho]; exact hs))
