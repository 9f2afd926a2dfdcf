-- CALLS OF THE REFERENCE, with what they write: prices, homes, cable
theorem rf9 {z z1 : St} {P : Int32 → St → Prop} (v : Int32) (ht : TM z1) (s : Same [0, 1] [] z z1) (h : ∀ (r : Int32) (z2 : St), TM z2 → Same [0, 1] [] z z2 → P r z2) : wp_X9_told v z1 (fun r z2 => P r z2) := s_X9_told _ _ _ ht (fun r z2 t2 s2 _ => h r z2 t2 (s.tr s2 (by decide) (by decide)))
theorem in9 {b1 : Int32} {lo hi : Int64} {r : Int32} {p q : Int} (h : (r = 1 ∧ (lo.toInt ≤ (Int32.toInt64 b1).toInt ∧ (Int32.toInt64 b1).toInt ≤ hi.toInt)) ∨ (r = 0 ∧ ((Int32.toInt64 b1).toInt < lo.toInt ∨ hi.toInt < (Int32.toInt64 b1).toInt))) (e1 : lo.toInt = p) (e2 : hi.toInt = q) : (r = 1 ∧ (p ≤ b1.toInt ∧ b1.toInt ≤ q)) ∨ (r = 0 ∧ (b1.toInt < p ∨ q < b1.toInt)) := by
  rw [show (Int32.toInt64 b1).toInt = b1.toInt from a_wide rfl, e1, e2] at h
  exact h
theorem v_X9_home (b1 : Int32) (z : St) (P : Int32 → St → Prop) (ht : TM z) (hR : ¬ GH (gI z 8).toInt b1 → ∀ (r : Int32) (z2 : St), TM z2 → Same [0, 1] [] z z2 → P r z2) (hS : GH (gI z 8).toInt b1 → ∀ (r : Int32) (z2 : St), TM z2 → Same [0, 1, 8] [4] z z2 → gI z2 8 = gI z 8 + 1 → gF z2 4 = upd (gF z 4) (gI z 8).toNatClampNeg b1 → P r z2) : wp_X9_home b1 z P := by
  have f : 0 ≤ (gI z 8).toInt ∧ (gI z 8).toInt ≤ 4 := ht.1 8
  unfold wp_X9_home
  intro z1 e1
  have t1 : TM z1 := by rw [e1]; exact Ty_wI ht trivial
  have s1 : Same [0, 1] [] z z1 := Same.rf.i (by decide) e1
  have y8 : gI z1 8 = gI z 8 := by rw [e1]; rfl
  refine s_X9_in _ _ _ _ _ t1 (fun r3 h3 => ?_)
  have h3' := in9 (p := 0) (q := 20000) h3 rfl rfl
  refine ⟨fun c => ?_, fun c => rf9 _ t1 s1 (hR (fun g => ?_))⟩
  · have q := or1 h3' c
    rw [y8]
    refine ⟨fun cl => ?_, fun cl => rf9 _ t1 s1 (hR (fun g => ?_))⟩
    · have cl' := i_ne (q := 4) rfl rfl cl
      refine ⟨vin rfl f.1 (by omega), ?_⟩
      intro z6 e6 z7 e7
      have q6 : gI z6 8 = gI z 8 := by rw [e6]; exact y8
      have i7 : (gI z6 8 + (1 : Int32)).toInt = (gI z 8).toInt + 1 := by rw [q6]; exact a_add rfl rfl (by omega) (by omega)
      have t6 : TM z6 := by rw [e6]; exact Ty_wR t1 trivial
      have t7 : TM z7 := by rw [e7]; exact Ty_wI t6 (show 0 ≤ (gI z6 8 + (1 : Int32)).toInt ∧ (gI z6 8 + (1 : Int32)).toInt ≤ 4 by omega)
      have s7 : Same [0, 1, 8] [4] z z7 := ((Same.tr (z1 := z) Same.rf s1 (by decide) (by decide)).r (by decide) e6).i (by decide) e7
      refine s_X9_told _ _ _ t7 (fun r z3 t3 s3 _ => hS ⟨q, by omega⟩ r z3 t3 (s7.tr s3 (by decide) (by decide)) ?_ ?_)
      · rw [s3.1 8 (by decide), e7]
        show gI z6 8 + 1 = _
        rw [q6]
      · rw [s3.2 4 (by decide), e7]
        show gF z6 4 = _
        rw [e6, gF_wR, e1]; rfl
    · have cl' : (gI z 8).toInt = 4 := i_eq rfl rfl cl
      have := g.2
      omega
  · have := or0 h3' c
    have := g.1
    omega
theorem v_X9_base (b1 b2 b3 : Int32) (z : St) (P : Int32 → St → Prop) (ht : TM z) (hR : ¬ GB (gI z 8).toInt b1 b2 b3 → ∀ (r : Int32) (z2 : St), TM z2 → Same [0, 1] [] z z2 → P r z2) (hS : GB (gI z 8).toInt b1 b2 b3 → ∀ (r : Int32) (z2 : St), TM z2 → Same [0, 1] [5] z z2 → gF z2 5 = upd (gF z 5) (24 * b1.toNatClampNeg + b2.toNatClampNeg) b3 → P r z2) : wp_X9_base b1 b2 b3 z P := by
  have f : 0 ≤ (gI z 8).toInt ∧ (gI z 8).toInt ≤ 4 := ht.1 8
  unfold wp_X9_base
  intro z1 e1
  have t1 : TM z1 := by rw [e1]; exact Ty_wI ht trivial
  have s1 : Same [0, 1] [] z z1 := Same.rf.i (by decide) e1
  have y8 : gI z1 8 = gI z 8 := by rw [e1]; rfl
  refine s_X9_in _ _ _ _ _ t1 (fun r3 h3 => ?_)
  have h3' := in9 (p := 0) (q := 23) h3 rfl rfl
  intro K4 hK4
  have bad : ¬ GB (gI z 8).toInt b1 b2 b3 → K4 := fun hb => hK4 (rf9 _ t1 s1 (hR hb))
  refine ⟨fun c => bad (fun g => ?_), fun c => ?_⟩
  · have := or0 h3' c
    have := g.1
    omega
  have q2 := or1 h3' c
  refine s_X9_in _ _ _ _ _ t1 (fun r9 h9 => ?_)
  have h9' := in9 (p := 0) (q := 5000) h9 rfl rfl
  refine ⟨fun c9 => ?_, fun c9 => bad (fun g => ?_)⟩
  · have q9 := or1 h9' c9
    refine s_X9_isHome _ _ _ t1 (fun r12 h12 => ?_)
    rw [y8] at h12
    refine ⟨fun c12 => ?_, fun c12 => rf9 _ t1 s1 (hR (fun g => ?_))⟩
    · have q12 := or1 h12 c12
      obtain ⟨hv, ex⟩ := ix24 (b1 := b1) (b2 := b2) (by omega) q2
      rw [show (24 : Int32) * b1 = b1 * 24 from Int32.mul_comm _ _, ex]
      refine ⟨hv, ?_⟩
      intro z14 e14
      have t14 : TM z14 := by rw [e14]; exact Ty_wR t1 trivial
      have s14 : Same [0, 1] [5] z z14 := (Same.tr (z1 := z) Same.rf s1 (by decide) (by decide)).r (by decide) e14
      refine s_X9_told _ _ _ t14 (fun r z3 t3 s3 _ => hS ⟨q2, q9, q12⟩ r z3 t3 (s14.tr s3 (by decide) (by decide)) ?_)
      rw [s3.2 5 (by decide), e14, gF_wR, e1]; rfl
    · have := or0 h12 c12
      have := g.2.2
      omega
  · have := or0 h9' c9
    have := g.2.1
    omega
theorem v_X9_cable (b1 : Int32) (z : St) (P : Int32 → St → Prop) (ht : TM z) (hR : ¬ GC b1 → ∀ (r : Int32) (z2 : St), TM z2 → Same [0, 1] [] z z2 → P r z2) (hS : GC b1 → ∀ (r : Int32) (z2 : St), TM z2 → Same [0, 1, 11] [] z z2 → gI z2 11 = b1 → P r z2) : wp_X9_cable b1 z P := by
  unfold wp_X9_cable
  intro z1 e1
  have t1 : TM z1 := by rw [e1]; exact Ty_wI ht trivial
  have s1 : Same [0, 1] [] z z1 := Same.rf.i (by decide) e1
  refine s_X9_in _ _ _ _ _ t1 (fun r3 h3 => ?_)
  have h3' := in9 (p := 0) (q := 80000) h3 rfl rfl
  refine ⟨fun c => ?_, fun c => rf9 _ t1 s1 (hR (fun g => ?_))⟩
  · intro x5 e5 z6 e6
    have t6 : TM z6 := by rw [e6]; exact Ty_wI t1 trivial
    have s6 : Same [0, 1, 11] [] z z6 := (Same.tr (z1 := z) Same.rf s1 (by decide) (by decide)).i (by decide) e6
    refine s_X9_told _ _ _ t6 (fun r z3 t3 s3 _ => hS (or1 h3' c) r z3 t3 (s6.tr s3 (by decide) (by decide)) ?_)
    rw [s3.1 11 (by decide), e6]; rfl
  · have := or0 h3' c
    unfold GC at g
    omega
theorem v_X9_plain (b1 : Int32) (z : St) (P : Int32 → St → Prop) (ht : TM z) (hR : ¬ GL b1 → ∀ (r : Int32) (z2 : St), TM z2 → Same [0, 1] [] z z2 → P r z2) (hS : GL b1 → ∀ (r : Int32) (z2 : St), TM z2 → Same [0, 1, 7, 21] [] z z2 → gI z2 7 = b1 → gI z2 21 = 0 → P r z2) : wp_X9_plain b1 z P := by
  unfold wp_X9_plain
  intro z1 e1
  have t1 : TM z1 := by rw [e1]; exact Ty_wI ht trivial
  have s1 : Same [0, 1] [] z z1 := Same.rf.i (by decide) e1
  refine s_X9_in _ _ _ _ _ t1 (fun r3 h3 => ?_)
  have h3' := in9 (p := -1000) (q := 10000) h3 rfl rfl
  refine ⟨fun c => ?_, fun c => ?_⟩
  · intro x5 e5 z6 e6 z7 e7 z8 e8
    have t6 : TM z6 := by rw [e6]; exact Ty_wI t1 trivial
    have t7 : TM z7 := by rw [e7]; exact Ty_wI t6 trivial
    have t8 : TM z8 := by rw [e8]; exact Ty_wI t7 trivial
    have s8 : Same [0, 1, 7, 21] [] z z8 := (((Same.tr (z1 := z) Same.rf s1 (by decide) (by decide)).i (by decide) e6).i (by decide) e7).i (by decide) e8
    refine hS (or1 h3' c) _ z8 t8 s8 ?_ ?_
    · rw [e8, e7]
      show gI z6 7 = _
      rw [e6]; rfl
    · rw [e8]
      show gI z7 21 = _
      rw [e7]; rfl
  · intro z9 e9
    refine hR (fun g => ?_) _ z9 (by rw [e9]; exact Ty_wI t1 trivial) (s1.i (by decide) e9)
    have := or0 h3' c
    unfold GL at g
    omega
theorem v_X9_price (b1 b2 b3 : Int32) (z : St) (P : Int32 → St → Prop) (ht : TM z) (hR : ¬ GP (gI z 3).toInt b1 b2 b3 → ∀ (r : Int32) (z2 : St), TM z2 → Same [0, 1] [] z z2 → P r z2) (hS : GP (gI z 3).toInt b1 b2 b3 → ∀ (r : Int32) (z2 : St), TM z2 → Same [0, 1, 3, 21] [1, 2, 3] z z2 → (gI z2 3).toInt = (gI z 3).toInt + 1 → gI z2 21 = 0 → gF z2 1 = upd (gF z 1) (gI z 3).toNatClampNeg b1 → gF z2 2 = upd (gF z 2) (gI z 3).toNatClampNeg b2 → gF z2 3 = upd (gF z 3) (gI z 3).toNatClampNeg b3 → P r z2) : wp_X9_price b1 b2 b3 z P := by
  have f : 0 ≤ (gI z 3).toInt ∧ (gI z 3).toInt ≤ 400 := ht.1 3
  unfold wp_X9_price
  intro z1 e1
  have t1 : TM z1 := by rw [e1]; exact Ty_wI ht trivial
  have s1 : Same [0, 1] [] z z1 := Same.rf.i (by decide) e1
  have y3 : gI z1 3 = gI z 3 := by rw [e1]; rfl
  refine s_X9_isHour _ _ _ t1 (fun r2 h2 => ?_)
  intro K3 hK3
  have bad : ¬ GP (gI z 3).toInt b1 b2 b3 → K3 := fun hb => hK3 (rf9 _ t1 s1 (hR hb))
  refine ⟨fun c => bad (fun g => ?_), fun c => ?_⟩
  · have := or0 h2 c
    have := g.1
    omega
  have q2 := or1 h2 c
  refine s_X9_in _ _ _ _ _ t1 (fun r8 h8 => ?_)
  have h8' := in9 (p := -1000) (q := 10000) h8 rfl rfl
  refine ⟨fun c8 => bad (fun g => ?_), fun c8 => ?_⟩
  · have := or0 h8' c8
    have := g.2.1
    omega
  have q8 := or1 h8' c8
  refine s_X9_isKnown _ _ _ t1 (fun r11 h11 => ⟨fun c11 => ?_, fun c11 => bad (fun g => ?_)⟩)
  · have q11 := or1 h11 c11
    rw [y3]
    refine ⟨fun cl => ?_, fun cl => rf9 _ t1 s1 (hR (fun g => ?_))⟩
    · have cl' := i_ne (q := 400) rfl rfl cl
      have hv : vp_in (gI z 3) 400 := vin rfl f.1 (by omega)
      refine ⟨hv, ?_⟩
      intro z15 e15
      have y15 : gI z15 3 = gI z 3 := by rw [e15]; exact y3
      refine ⟨by rw [y15]; exact hv, ?_⟩
      intro z16 e16
      have y16 : gI z16 3 = gI z 3 := by rw [e16]; exact y15
      refine ⟨by rw [y16]; exact hv, ?_⟩
      intro z17 e17 z18 e18 z19 e19
      have y17 : gI z17 3 = gI z 3 := by rw [e17]; exact y16
      have t15 : TM z15 := by rw [e15]; exact Ty_wR t1 q2
      have t16 : TM z16 := by rw [e16]; exact Ty_wR t15 trivial
      have t17 : TM z17 := by rw [e17]; exact Ty_wR t16 trivial
      have i18 : (gI z17 3 + (1 : Int32)).toInt = (gI z 3).toInt + 1 := by rw [y17]; exact a_add rfl rfl (by omega) (by omega)
      have t18 : TM z18 := by rw [e18]; exact Ty_wI t17 (show 0 ≤ (gI z17 3 + (1 : Int32)).toInt ∧ (gI z17 3 + (1 : Int32)).toInt ≤ 400 by omega)
      have t19 : TM z19 := by rw [e19]; exact Ty_wI t18 trivial
      have s19 : Same [0, 1, 3, 21] [1, 2, 3] z z19 := (((((Same.tr (z1 := z) Same.rf s1 (by decide) (by decide)).r (by decide) e15).r (by decide) e16).r (by decide) e17).i (by decide) e18).i (by decide) e19
      refine s_X9_told _ _ _ t19 (fun r z20 t20 s20 _ => hS ⟨q2, q8, q11, by omega⟩ r z20 t20 (s19.tr s20 (by decide) (by decide)) ?_ ?_ ?_ ?_ ?_)
      · rw [s20.1 3 (by decide), e19, e18]; exact i18
      · rw [s20.1 21 (by decide), e19]; rfl
      · rw [s20.2 1 (by decide), e19, e18, e17, e16]; show gF z15 1 = _; rw [e15, gF_wR, e1]; rfl
      · rw [s20.2 2 (by decide), e19, e18, e17]; show gF z16 2 = _; rw [e16, gF_wR, y15, e15, e1]; rfl
      · rw [s20.2 3 (by decide), e19, e18]; show gF z17 3 = _; rw [e17, gF_wR, y16, e16, e15, e1]; rfl
    · have cl' : (gI z 3).toInt = 400 := i_eq rfl rfl cl
      have := g.2.2.2
      omega
  · have := or0 h11 c11
    have := g.2.2.1
    omega
