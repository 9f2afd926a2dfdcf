-- PRICES: the rows of both sides
theorem v_X3_asKnown (b1 b2 : Int32) (z : St) (P : Int32 → Prop) (ht : TX z) (hk : P (prF (gF z 2) (gF z 3) (gF z 4) (gI z 106) b1 b2 (gI z 105).toNatClampNeg)) : wp_X3_asKnown b1 b2 z P := by
  have e00 : (0 : Int32).toInt = 0 := rfl
  have f3 : 0 ≤ (gI z 105).toInt ∧ (gI z 105).toInt ≤ 400 := ht.1 105
  have c3 := clampN f3.1
  unfold wp_X3_asKnown
  intro K2 hK2
  have L : ∀ (n : Nat) (v1 : Int32), -1 ≤ v1.toInt → v1.toInt < 400 → P (prF (gF z 2) (gF z 3) (gF z 4) (gI z 106) b1 b2 (v1.toInt + 1).toNat) → (v1.toInt + 1).toNat < n → K2 v1 := by
    intro n
    induction n with
    | zero => intro v1 _ _ _ q; omega
    | succ n ih =>
      intro v1 g0 g1 hp gm
      refine hK2 v1 ⟨fun c => ?_, fun c => ?_⟩
      · have c' : v1.toInt < 0 := i_lt rfl rfl c
        rw [show (v1.toInt + 1).toNat = 0 by omega] at hp
        exact hp
      · have c' : 0 ≤ v1.toInt := i_nlt rfl rfl c
        have cv := clampN c'
        have hv : vp_in v1 400 := vin rfl c' (by omega)
        rw [show (v1.toInt + 1).toNat = v1.toNatClampNeg + 1 by omega] at hp
        refine ⟨hv, ?_⟩
        intro K4 hK4
        have h4 : P (prF (gF z 2) (gF z 3) (gF z 4) (gI z 106) b1 b2 v1.toNatClampNeg) → K4 := by
          intro hq
          refine hK4 (fun x5 e5 => ?_)
          have i5 : x5.toInt = v1.toInt - 1 := by rw [e5]; exact a_add rfl (show (-1 : Int32).toInt = -1 from rfl) (by omega) (by omega)
          exact ih x5 (by omega) (by omega) (by rw [show (x5.toInt + 1).toNat = v1.toNatClampNeg by omega]; exact hq) (by omega)
        unfold prF at hp
        refine ⟨fun c1 => h4 ?_, fun c1 => ⟨hv, fun c2 => h4 ?_, fun c2 => ⟨hv, ?_⟩⟩⟩
        · rw [if_neg c1] at hp; exact hp
        · rw [if_pos c1, if_pos c2] at hp; exact hp
        · rw [if_pos c1, if_neg c2] at hp; exact hp
  intro x8 e8
  have i8 : x8.toInt = (gI z 105).toInt - 1 := by rw [e8]; exact a_sub rfl rfl (by omega) (by omega)
  exact L _ x8 (by omega) (by omega) (by rw [show (x8.toInt + 1).toNat = (gI z 105).toNatClampNeg by omega]; exact hk) (Nat.lt_succ_self _)
theorem v_X8_at (b1 b2 : Int32) (z : St) (P : Int32 → Prop) (ht : TX z) (hk : P (if (0 ≤ b1.toInt ∧ b1.toInt ≤ 167) ∧ (0 ≤ b2.toInt ∧ b2.toInt ≤ 1000) then prF (gF z 2) (gF z 3) (gF z 4) (gI z 106) b1 b2 (gI z 105).toNatClampNeg else -5000)) : wp_X8_at b1 b2 z P := by
  unfold wp_X8_at
  refine s_X8_isHour _ _ _ ht (fun r2 h2 => ⟨fun c => ?_, fun c => ?_⟩)
  · rcases h2 with q | q
    · rw [q.1] at c; exact absurd c (by decide)
    · rw [if_neg (by omega)] at hk; exact hk
  · rcases h2 with q2 | q2
    · refine s_X8_isKnown _ _ _ ht (fun r5 h5 => ⟨fun c5 => ?_, fun c5 => ?_⟩)
      · rcases h5 with q | q
        · rw [if_pos ⟨q2.2, q.2⟩] at hk; exact v_X3_asKnown _ _ _ _ ht hk
        · exact absurd q.1 c5
      · rcases h5 with q | q
        · rw [q.1] at c5; exact absurd c5 (by decide)
        · rw [if_neg (by omega)] at hk; exact hk
    · exact absurd q2.1 c
theorem v_X9_at (b1 b2 : Int32) (z : St) (P : Int32 → St → Prop) (ht : TM z) (hk : ∀ z2 : St, TM z2 → Same [0] [] z z2 → P (if (0 ≤ b1.toInt ∧ b1.toInt ≤ 167) ∧ (0 ≤ b2.toInt ∧ b2.toInt ≤ 1000) then PR z b1 b2 else -5000) z2) : wp_X9_at b1 b2 z P := by
  unfold wp_X9_at
  intro z1 e1
  have t1 : TM z1 := by rw [e1]; exact Ty_wI ht trivial
  have s1 : Same [0] [] z z1 := Same.rf.i (by decide) e1
  have hk := hk z1 t1 s1
  refine s_X9_isHour _ _ _ t1 (fun r2 h2 => ⟨fun c => ?_, fun c => ?_⟩)
  · rcases h2 with q | q
    · rw [q.1] at c; exact absurd c (by decide)
    · rw [if_neg (by omega)] at hk; exact hk
  · rcases h2 with q2 | q2
    · refine s_X9_isKnown _ _ _ t1 (fun r5 h5 => ⟨fun c5 => ?_, fun c5 => ?_⟩)
      · rcases h5 with q | q
        · rw [q.1] at c5; exact absurd c5 (by decide)
        · rw [if_neg (by omega)] at hk; exact hk
      · rcases h5 with q | q
        · rw [if_pos ⟨q2.2, q.2⟩, ← PR_same s1 (by decide) (by decide) (by decide) (by decide) (by decide)] at hk
          exact v_X9_priceOf _ _ _ _ t1 hk
        · exact absurd q.1 c5
    · exact absurd q2.1 c
/-- what price() does to the rows: nothing, or one more -/
def PRW (r1 r2 r3 s1 s2 s3 : Nat → Int32) (k : Nat) (good : Prop) (b1 b2 b3 : Int32) : Prop := (¬ good ∧ s1 = r1 ∧ s2 = r2 ∧ s3 = r3) ∨ (good ∧ s1 = upd r1 k b1 ∧ s2 = upd r2 k b2 ∧ s3 = upd r3 k b3)
def GP (n : Int) (b1 b2 b3 : Int32) : Prop := (0 ≤ b1.toInt ∧ b1.toInt ≤ 167) ∧ (-1000 ≤ b2.toInt ∧ b2.toInt ≤ 10000) ∧ (0 ≤ b3.toInt ∧ b3.toInt ≤ 1000) ∧ n < 400
theorem gF_wR {z : St} {k : Nat} {f : Nat → Int32} : gF (wR z k f) k = f := by
  show va_up z.2.1 k f k = _
  unfold va_up
  rw [if_pos rfl]
theorem k_X3_tell (b1 b2 b3 : Int32) (z : St) (P : St → Prop) (ht : TX z) (h0 : 0 ≤ b1.toInt ∧ b1.toInt ≤ 167) (h1 : (gI z 105).toInt ≤ 399) (hk : ∀ z2 : St, TX z2 → Same [105] [2, 3, 4] z z2 → (gI z2 105).toInt = (gI z 105).toInt + 1 → gF z2 2 = upd (gF z 2) (gI z 105).toNatClampNeg b1 → gF z2 3 = upd (gF z 3) (gI z 105).toNatClampNeg b2 → gF z2 4 = upd (gF z 4) (gI z 105).toNatClampNeg b3 → P z2) : wp_X3_tell b1 b2 b3 z P := by
  have f : 0 ≤ (gI z 105).toInt ∧ (gI z 105).toInt ≤ 400 := ht.1 105
  have hv : vp_in (gI z 105) 400 := vin rfl f.1 (by omega)
  unfold wp_X3_tell
  refine ⟨hv, ?_⟩
  intro z1 e1
  have q1 : gI z1 105 = gI z 105 := by rw [e1]; rfl
  refine ⟨by rw [q1]; exact hv, ?_⟩
  intro z2 e2
  have q2 : gI z2 105 = gI z 105 := by rw [e2]; exact q1
  refine ⟨by rw [q2]; exact hv, ?_⟩
  intro z3 e3 z4 e4
  have q3 : gI z3 105 = gI z 105 := by rw [e3]; exact q2
  have t1 : TX z1 := by rw [e1]; exact Ty_wR ht h0
  have t2 : TX z2 := by rw [e2]; exact Ty_wR t1 trivial
  have t3 : TX z3 := by rw [e3]; exact Ty_wR t2 trivial
  have i4 : (gI z3 105 + (1 : Int32)).toInt = (gI z 105).toInt + 1 := by rw [q3]; exact a_add rfl rfl (by omega) (by omega)
  have t4 : TX z4 := by rw [e4]; exact Ty_wI t3 (show 0 ≤ (gI z3 105 + (1 : Int32)).toInt ∧ (gI z3 105 + (1 : Int32)).toInt ≤ 400 by omega)
  refine hk z4 t4 ((((Same.rf.r (by decide) e1).r (by decide) e2).r (by decide) e3).i (by decide) e4) (by rw [e4]; exact i4) ?_ ?_ ?_
  · rw [e4, e3, e2]; show gF z1 2 = _; rw [e1]; exact gF_wR
  · rw [e4, e3]; show gF z2 3 = _; rw [e2, gF_wR, q1, e1]; rfl
  · rw [e4]; show gF z3 4 = _; rw [e3, gF_wR, q2, e2, e1]; rfl
theorem s3_X8_price (b1 b2 b3 : Int32) (z : St) (P : Int32 → St → Prop) (ht : TX z) (hk : ∀ (r : Int32) (z2 : St), TX z2 → Same [8, 105] [2, 3, 4, 5] z z2 → (((gI z2 105).toInt = (gI z 105).toInt ∧ ¬ GP (gI z 105).toInt b1 b2 b3) ∨ ((gI z2 105).toInt = (gI z 105).toInt + 1 ∧ GP (gI z 105).toInt b1 b2 b3)) ∧ PRW (gF z 2) (gF z 3) (gF z 4) (gF z2 2) (gF z2 3) (gF z2 4) (gI z 105).toNatClampNeg (GP (gI z 105).toInt b1 b2 b3) b1 b2 b3 → P r z2) : wp_X8_price b1 b2 b3 z P := by
  have hbad : ∀ (v : Int32), ¬ GP (gI z 105).toInt b1 b2 b3 → wp_X8_refuse v z (fun r5 z4 => P r5 z4) := by
    intro v hb
    unfold wp_X8_refuse
    intro z4 e4
    refine hk v z4 (by rw [e4]; exact Ty_wI ht trivial) (Same.rf.i (by decide) e4) ⟨Or.inl ⟨by rw [e4]; rfl, hb⟩, Or.inl ⟨hb, ?_, ?_, ?_⟩⟩
    · rw [e4]; rfl
    · rw [e4]; rfl
    · rw [e4]; rfl
  unfold wp_X8_price
  refine s_X8_isHour _ _ _ ht (fun r2 h2 => ?_)
  intro K3 hK3
  refine ⟨fun c => hK3 (hbad _ ?_), fun c => ?_⟩
  · rcases h2 with q | q
    · rw [q.1] at c; exact absurd c (by decide)
    · intro g; unfold GP at g; omega
  have q2 : 0 ≤ b1.toInt ∧ b1.toInt ≤ 167 := by
    rcases h2 with q | q
    · exact q.2
    · exact absurd q.1 c
  refine s_X8_isPrice _ _ _ ht (fun r8 h8 => ⟨fun c8 => hK3 (hbad _ ?_), fun c8 => ?_⟩)
  · rcases h8 with q | q
    · rw [q.1] at c8; exact absurd c8 (by decide)
    · intro g; unfold GP at g; omega
  have q8 : -1000 ≤ b2.toInt ∧ b2.toInt ≤ 10000 := by
    rcases h8 with q | q
    · exact q.2
    · exact absurd q.1 c8
  refine s_X8_isKnown _ _ _ ht (fun r11 h11 => ⟨fun c11 => ?_, fun c11 => hK3 (hbad _ ?_)⟩)
  · have q11 : 0 ≤ b3.toInt ∧ b3.toInt ≤ 1000 := by
      rcases h11 with q | q
      · exact q.2
      · exact absurd q.1 c11
    refine ⟨fun cl => ?_, fun cl => hbad _ ?_⟩
    · have cl' : (gI z 105).toInt < 400 := i_lt rfl rfl cl
      have hg : GP (gI z 105).toInt b1 b2 b3 := ⟨q2, q8, q11, cl'⟩
      refine k_X3_tell _ _ _ _ _ ht q2 (by omega) (fun z14 t14 s14 n14 a2 a3 a4 => ?_)
      have s14' : Same [8, 105] [2, 3, 4, 5] z z14 := Same.tr (z1 := z) Same.rf s14 (by decide) (by decide)
      intro K16 hK16
      have h16 : ∀ z17 : St, TX z17 → Same [8, 105] [2, 3, 4, 5] z z17 → gI z17 105 = gI z14 105 → gF z17 2 = gF z14 2 → gF z17 3 = gF z14 3 → gF z17 4 = gF z14 4 → K16 z17 := by
        intro z17 t17 s17 w5 w2 w3 w4
        refine hK16 z17 ?_
        unfold wp_X8_accept
        intro z18 e18
        refine hk _ z18 (by rw [e18]; exact Ty_wI t17 trivial) (s17.i (by decide) e18) ⟨Or.inr ⟨?_, hg⟩, Or.inr ⟨hg, ?_, ?_, ?_⟩⟩
        · rw [e18]; show (gI z17 105).toInt = _; rw [w5]; exact n14
        · rw [e18]; show gF z17 2 = _; rw [w2]; exact a2
        · rw [e18]; show gF z17 3 = _; rw [w3]; exact a3
        · rw [e18]; show gF z17 4 = _; rw [w4]; exact a4
      refine ⟨fun _ => h16 z14 t14 s14' rfl rfl rfl rfl, fun _ => ⟨vin rfl q2.1 (by omega), ?_⟩⟩
      intro z21 e21
      exact h16 z21 (by rw [e21]; exact Ty_wR t14 trivial) (s14'.r (by decide) e21) (by rw [e21]; rfl) (by rw [e21]; rfl) (by rw [e21]; rfl) (by rw [e21]; rfl)
    · have cl' : 400 ≤ (gI z 105).toInt := i_nlt rfl rfl cl
      intro g; unfold GP at g; omega
  · rcases h11 with q | q
    · rw [q.1] at c11; exact absurd c11 (by decide)
    · intro g; unfold GP at g; omega
theorem s3_X9_price (b1 b2 b3 : Int32) (z : St) (P : Int32 → St → Prop) (ht : TM z) (hk : ∀ (r : Int32) (z2 : St), TM z2 → Same [0, 1, 3, 21] [1, 2, 3] z z2 → (((gI z2 3).toInt = (gI z 3).toInt ∧ ¬ GP (gI z 3).toInt b1 b2 b3) ∨ ((gI z2 3).toInt = (gI z 3).toInt + 1 ∧ GP (gI z 3).toInt b1 b2 b3)) ∧ PRW (gF z 1) (gF z 2) (gF z 3) (gF z2 1) (gF z2 2) (gF z2 3) (gI z 3).toNatClampNeg (GP (gI z 3).toInt b1 b2 b3) b1 b2 b3 → P r z2) : wp_X9_price b1 b2 b3 z P := by
  have f : 0 ≤ (gI z 3).toInt ∧ (gI z 3).toInt ≤ 400 := ht.1 3
  unfold wp_X9_price
  intro z1 e1
  have t1 : TM z1 := by rw [e1]; exact Ty_wI ht trivial
  have s1 : Same [0, 1, 3, 21] [1, 2, 3] z z1 := Same.rf.i (by decide) e1
  have y3 : gI z1 3 = gI z 3 := by rw [e1]; rfl
  have hbad : ∀ (v : Int32), ¬ GP (gI z 3).toInt b1 b2 b3 → wp_X9_told v z1 (fun r5 z4 => P r5 z4) := by
    intro v hb
    refine s_X9_told _ _ _ t1 (fun r z4 t4 s4 _ => ?_)
    refine hk r z4 t4 (s1.tr s4 (by decide) (by decide)) ⟨Or.inl ⟨by rw [s4.1 3 (by decide), y3], hb⟩, Or.inl ⟨hb, ?_, ?_, ?_⟩⟩
    · rw [s4.2 1 (by decide), e1]; rfl
    · rw [s4.2 2 (by decide), e1]; rfl
    · rw [s4.2 3 (by decide), e1]; rfl
  refine s_X9_isHour _ _ _ t1 (fun r2 h2 => ?_)
  intro K3 hK3
  refine ⟨fun c => hK3 (hbad _ ?_), fun c => ?_⟩
  · rcases h2 with q | q
    · rw [q.1] at c; exact absurd c (by decide)
    · intro g; unfold GP at g; omega
  have q2 : 0 ≤ b1.toInt ∧ b1.toInt ≤ 167 := by
    rcases h2 with q | q
    · exact q.2
    · exact absurd q.1 c
  refine s_X9_in _ _ _ _ _ t1 (fun r8 h8 => ?_)
  rw [show (Int32.toInt64 b2).toInt = b2.toInt from a_wide rfl, show (-1000 : Int64).toInt = -1000 from rfl, show (10000 : Int64).toInt = 10000 from rfl] at h8
  refine ⟨fun c8 => hK3 (hbad _ ?_), fun c8 => ?_⟩
  · rcases h8 with q | q
    · rw [q.1] at c8; exact absurd c8 (by decide)
    · intro g; unfold GP at g; omega
  have q8 : -1000 ≤ b2.toInt ∧ b2.toInt ≤ 10000 := by
    rcases h8 with q | q
    · exact q.2
    · exact absurd q.1 c8
  refine s_X9_isKnown _ _ _ t1 (fun r11 h11 => ⟨fun c11 => ?_, fun c11 => hK3 (hbad _ ?_)⟩)
  · have q11 : 0 ≤ b3.toInt ∧ b3.toInt ≤ 1000 := by
      rcases h11 with q | q
      · exact q.2
      · exact absurd q.1 c11
    rw [y3]
    refine ⟨fun cl => ?_, fun cl => hbad _ ?_⟩
    · have cl' := i_ne (q := 400) rfl rfl cl
      have hg : GP (gI z 3).toInt b1 b2 b3 := ⟨q2, q8, q11, by omega⟩
      have hv : vp_in (gI z 3) 400 := vin rfl f.1 (by omega)
      refine ⟨hv, ?_⟩
      intro z15 e15
      have y15 : gI z15 3 = gI z 3 := by rw [e15]; exact y3
      refine ⟨by rw [y15]; exact hv, ?_⟩
      intro z16 e16
      have y16 : gI z16 3 = gI z 3 := by rw [e16]; exact y15
      refine ⟨by rw [y16]; exact hv, ?_⟩
      intro z17 e17 z18 e18 z19 e19
      have y17 : gI z17 3 = gI z 3 := by rw [e17]; exact y16
      have t15 : TM z15 := by rw [e15]; exact Ty_wR t1 q2
      have t16 : TM z16 := by rw [e16]; exact Ty_wR t15 trivial
      have t17 : TM z17 := by rw [e17]; exact Ty_wR t16 trivial
      have i18 : (gI z17 3 + (1 : Int32)).toInt = (gI z 3).toInt + 1 := by rw [y17]; exact a_add rfl rfl (by omega) (by omega)
      have t18 : TM z18 := by rw [e18]; exact Ty_wI t17 (show 0 ≤ (gI z17 3 + (1 : Int32)).toInt ∧ (gI z17 3 + (1 : Int32)).toInt ≤ 400 by omega)
      have t19 : TM z19 := by rw [e19]; exact Ty_wI t18 trivial
      have s19 : Same [0, 1, 3, 21] [1, 2, 3] z z19 := ((((s1.r (by decide) e15).r (by decide) e16).r (by decide) e17).i (by decide) e18).i (by decide) e19
      refine s_X9_told _ _ _ t19 (fun r z20 t20 s20 _ => ?_)
      refine hk r z20 t20 (s19.tr s20 (by decide) (by decide)) ⟨Or.inr ⟨?_, hg⟩, Or.inr ⟨hg, ?_, ?_, ?_⟩⟩
      · rw [s20.1 3 (by decide), e19, e18]; exact i18
      · rw [s20.2 1 (by decide), e19, e18, e17, e16]; show gF z15 1 = _; rw [e15, gF_wR, e1]; rfl
      · rw [s20.2 2 (by decide), e19, e18, e17]; show gF z16 2 = _; rw [e16, gF_wR, y15, e15, e1]; rfl
      · rw [s20.2 3 (by decide), e19, e18]; show gF z17 3 = _; rw [e17, gF_wR, y16, e16, e15, e1]; rfl
    · have cl' : (gI z 3).toInt = 400 := i_eq rfl rfl cl
      intro g; unfold GP at g; omega
  · rcases h11 with q | q
    · rw [q.1] at c11; exact absurd c11 (by decide)
    · intro g; unfold GP at g; omega
