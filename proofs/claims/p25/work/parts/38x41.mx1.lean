-- CALLS OF THE CLASS, with what they write: prices, homes, cable
theorem or1 {r : Int32} {A B : Prop} (h : (r = 1 ∧ A) ∨ (r = 0 ∧ B)) (c : ¬ r = 0) : A := by
  rcases h with q | q
  · exact q.2
  · exact absurd q.1 c
theorem or0 {r : Int32} {A B : Prop} (h : (r = 1 ∧ A) ∨ (r = 0 ∧ B)) (c : r = 0) : B := by
  rcases h with q | q
  · rw [q.1] at c; exact absurd c (by decide)
  · exact q.2
theorem rf8 {z : St} {P : Int32 → St → Prop} (v : Int32) (ht : TX z) (h : ∀ (r : Int32) (z2 : St), TX z2 → Same [8] [] z z2 → P r z2) : wp_X8_refuse v z (fun r z2 => P r z2) := s_X8_refuse _ _ _ ht (fun r z2 t2 s2 _ => h r z2 t2 s2)
def GH (n : Int) (b1 : Int32) : Prop := (0 ≤ b1.toInt ∧ b1.toInt ≤ 20000) ∧ n < 4
theorem v_X8_home (b1 : Int32) (z : St) (P : Int32 → St → Prop) (ht : TX z) (hR : ¬ GH (gI z 705).toInt b1 → ∀ (r : Int32) (z2 : St), TX z2 → Same [8] [] z z2 → P r z2) (hS : GH (gI z 705).toInt b1 → ∀ (r : Int32) (z2 : St), TX z2 → Same [8, 705] [8] z z2 → gI z2 705 = gI z 705 + 1 → gF z2 8 = upd (gF z 8) (gI z 705).toNatClampNeg b1 → P r z2) : wp_X8_home b1 z P := by
  have f : 0 ≤ (gI z 705).toInt ∧ (gI z 705).toInt ≤ 4 := ht.1 705
  have e2 : (20000 : Int32).toInt = 20000 := rfl
  unfold wp_X8_home
  refine s_X8_isWithin _ _ _ _ ht (fun r2 h2 => ⟨fun c => ?_, fun c => rf8 _ ht (hR ?_)⟩)
  · have q := or1 h2 c
    rw [e2] at q
    refine ⟨fun cl => ?_, fun cl => rf8 _ ht (hR ?_)⟩
    · have cl' : (gI z 705).toInt < 4 := i_lt rfl rfl cl
      unfold wp_X0_addHome
      refine ⟨vin rfl f.1 (by omega), ?_⟩
      intro z1 e1 z2 e2
      have q1 : gI z1 705 = gI z 705 := by rw [e1]; rfl
      have i2 : (gI z1 705 + (1 : Int32)).toInt = (gI z 705).toInt + 1 := by rw [q1]; exact a_add rfl rfl (by omega) (by omega)
      have t1 : TX z1 := by rw [e1]; exact Ty_wR ht trivial
      have t2 : TX z2 := by rw [e2]; exact Ty_wI t1 (show 0 ≤ (gI z1 705 + (1 : Int32)).toInt ∧ (gI z1 705 + (1 : Int32)).toInt ≤ 4 by omega)
      have s2 : Same [8, 705] [8] z z2 := (Same.rf.r (by decide) e1).i (by decide) e2
      refine s_X8_accept _ _ _ t2 (fun r z3 t3 s3 _ => hS ⟨q, cl'⟩ r z3 t3 (s2.tr s3 (by decide) (by decide)) ?_ ?_)
      · rw [s3.1 705 (by decide), e2]
        show gI z1 705 + 1 = _
        rw [q1]
      · rw [s3.2 8 (by decide), e2]
        show gF z1 8 = _
        rw [e1, gF_wR]
    · have cl' : 4 ≤ (gI z 705).toInt := i_nlt rfl rfl cl
      intro g
      have := g.2
      omega
  · have q := or0 h2 c
    rw [e2] at q
    intro g
    have := g.1
    omega
def GB (n : Int) (b1 b2 b3 : Int32) : Prop := (0 ≤ b2.toInt ∧ b2.toInt ≤ 23) ∧ (0 ≤ b3.toInt ∧ b3.toInt ≤ 5000) ∧ (0 ≤ b1.toInt ∧ b1.toInt < n)
theorem ix24 {b1 b2 : Int32} (h1 : 0 ≤ b1.toInt ∧ b1.toInt ≤ 3) (h2 : 0 ≤ b2.toInt ∧ b2.toInt ≤ 23) : vp_in (b1 * (24 : Int32) + b2) 96 ∧ (b1 * (24 : Int32) + b2).toNatClampNeg = 24 * b1.toNatClampNeg + b2.toNatClampNeg := by
  have c1 := clampN h1.1
  have c2 := clampN h2.1
  have m : (b1 * (24 : Int32)).toInt = b1.toInt * 24 := a_mul rfl (show (24 : Int32).toInt = 24 from rfl) (by omega) (by omega)
  have i : (b1 * (24 : Int32) + b2).toInt = b1.toInt * 24 + b2.toInt := a_add m rfl (by omega) (by omega)
  have c := clampN (x := b1 * (24 : Int32) + b2) (by omega)
  exact ⟨vin i (by omega) (by omega), by omega⟩
theorem v_X8_base (b1 b2 b3 : Int32) (z : St) (P : Int32 → St → Prop) (ht : TX z) (hR : ¬ GB (gI z 705).toInt b1 b2 b3 → ∀ (r : Int32) (z2 : St), TX z2 → Same [8] [] z z2 → P r z2) (hS : GB (gI z 705).toInt b1 b2 b3 → ∀ (r : Int32) (z2 : St), TX z2 → Same [8] [9, 11] z z2 → gF z2 9 = upd (gF z 9) (24 * b1.toNatClampNeg + b2.toNatClampNeg) b3 → gF z2 11 = upd (gF z 11) b2.toNatClampNeg (gF z 11 b2.toNatClampNeg + (b3 - gF z 9 (24 * b1.toNatClampNeg + b2.toNatClampNeg))) → P r z2) : wp_X8_base b1 b2 b3 z P := by
  have f : 0 ≤ (gI z 705).toInt ∧ (gI z 705).toInt ≤ 4 := ht.1 705
  have e23 : (23 : Int32).toInt = 23 := rfl
  have e50 : (5000 : Int32).toInt = 5000 := rfl
  unfold wp_X8_base
  refine s_X8_isWithin _ _ _ _ ht (fun r2 h2 => ?_)
  rw [e23] at h2
  intro K3 hK3
  have bad : ¬ GB (gI z 705).toInt b1 b2 b3 → K3 := fun hb => hK3 (rf8 _ ht (hR hb))
  refine ⟨fun c => bad (fun g => ?_), fun c => ?_⟩
  · have := or0 h2 c
    have := g.1
    omega
  have q2 := or1 h2 c
  refine s_X8_isWithin _ _ _ _ ht (fun r8 h8 => ?_)
  rw [e50] at h8
  refine ⟨fun c8 => ?_, fun c8 => bad (fun g => ?_)⟩
  · have q8 := or1 h8 c8
    refine s_X0_has _ _ _ ht (fun r11 h11 => ⟨fun c11 => ?_, fun c11 => rf8 _ ht (hR (fun g => ?_))⟩)
    · have q11 := or1 h11 c11
      obtain ⟨hv, ex⟩ := ix24 (b1 := b1) (b2 := b2) (by omega) q2
      have hv24 : vp_in b2 24 := vin rfl q2.1 (by omega)
      unfold wp_X0_setBase
      rw [ex]
      refine ⟨hv24, hv, hv24, ?_⟩
      intro z1 e1
      refine ⟨hv, ?_⟩
      intro z2 e2
      have t1 : TX z1 := by rw [e1]; exact Ty_wR ht trivial
      have t2 : TX z2 := by rw [e2]; exact Ty_wR t1 trivial
      have s2 : Same [8] [9, 11] z z2 := (Same.rf.r (by decide) e1).r (by decide) e2
      refine s_X8_accept _ _ _ t2 (fun r z3 t3 s3 _ => hS ⟨q2, q8, q11⟩ r z3 t3 (s2.tr s3 (by decide) (by decide)) ?_ ?_)
      · rw [s3.2 9 (by decide), e2, gF_wR, e1]; rfl
      · rw [s3.2 11 (by decide), e2]
        show gF z1 11 = _
        rw [e1, gF_wR]
    · have := or0 h11 c11
      have := g.2.2
      omega
  · have := or0 h8 c8
    have := g.2.1
    omega
def GC (b1 : Int32) : Prop := 0 ≤ b1.toInt ∧ b1.toInt ≤ 80000
theorem v_X8_cable (b1 : Int32) (z : St) (P : Int32 → St → Prop) (ht : TX z) (hR : ¬ GC b1 → ∀ (r : Int32) (z2 : St), TX z2 → Same [8] [] z z2 → P r z2) (hS : GC b1 → ∀ (r : Int32) (z2 : St), TX z2 → Same [8, 706] [] z z2 → gI z2 706 = b1 → P r z2) : wp_X8_cable b1 z P := by
  have e8 : (80000 : Int32).toInt = 80000 := rfl
  unfold wp_X8_cable
  refine s_X8_isWithin _ _ _ _ ht (fun r2 h2 => ?_)
  rw [e8] at h2
  refine ⟨fun c => ?_, fun c => rf8 _ ht (hR (fun g => ?_))⟩
  · intro x4 e4 z5 e5
    have t5 : TX z5 := by rw [e5]; exact Ty_wI ht trivial
    refine s_X8_accept _ _ _ t5 (fun r z3 t3 s3 _ => hS (or1 h2 c) r z3 t3 ((Same.rf.i (by decide) e5).tr s3 (by decide) (by decide)) ?_)
    rw [s3.1 706 (by decide), e5]; rfl
  · have := or0 h2 c
    unfold GC at g
    omega
theorem v_fill_5 (b : Int32) (z : St) (P : St → Prop) (ht : TX z) (hk : ∀ (z2 : St), TX z2 → Same [] [5] z z2 → (∀ x : Nat, x < 168 → gF z2 5 x = b) → P z2) : wp_J7_fill_53178_5 b z P := by
  have e00 : (0 : Int32).toInt = 0 := rfl
  have e05 : (168 : Int32).toInt = 168 := rfl
  unfold wp_J7_fill_53178_5
  intro K3 hK3
  have L : ∀ (n : Nat) (v1 : Int32) (z4 : St), TX z4 → Same [] [5] z z4 → 0 ≤ v1.toInt → v1.toInt ≤ 168 → (∀ x : Nat, (x : Int) < v1.toInt → gF z4 5 x = b) → (168 - v1.toInt).toNat < n → K3 v1 168 z4 := by
    intro n
    induction n with
    | zero => intro v1 z4 _ _ _ _ _ q; omega
    | succ n ih =>
      intro v1 z4 t4 s4 g0 g1 gz gm
      refine hK3 v1 168 z4 ⟨fun c => hk z4 t4 s4 (fun x hx => gz x (by have := i_le (p := 168) rfl rfl c; omega)), fun c => ?_⟩
      have c' := i_nle (p := 168) rfl rfl c
      have cv := clampN g0
      refine ⟨vin rfl g0 (by omega), ?_⟩
      intro z6 e6 x7 e7
      have i7 : x7.toInt = v1.toInt + 1 := by rw [e7]; exact a_add rfl rfl (by omega) (by omega)
      refine ih x7 z6 (by rw [e6]; exact Ty_wR t4 trivial) (s4.r (by decide) e6) (by omega) (by omega) (fun x hx => ?_) (by omega)
      rw [e6, gF_upd]
      by_cases e : x = v1.toNatClampNeg
      · rw [if_pos e]
      · rw [if_neg e]; exact gz x (by omega)
  exact L 169 0 z ht Same.rf (by omega) (by omega) (fun x hx => by omega) (by omega)
/-- a row of prices, laid as they were known -/
theorem v_X3_lay_5 (b2 : Int32) (z : St) (P : St → Prop) (ht : TX z) (hk : ∀ (z2 : St), TX z2 → Same [] [5] z z2 → (∀ t : Nat, t < 168 → gF z2 5 t = prF (gF z 2) (gF z 3) (gF z 4) (gI z 106) (nI t) b2 (gI z 105).toNatClampNeg) → P z2) : wp_X3_lay_5 b2 z P := by
  have f : 0 ≤ (gI z 105).toInt ∧ (gI z 105).toInt ≤ 400 := ht.1 105
  have cf := clampN f.1
  unfold wp_X3_lay_5
  refine v_fill_5 _ _ _ ht (fun z1 t1 s1 g1 => ?_)
  intro K4 hK4
  have L : ∀ (n : Nat) (v3 : Int32) (z5 : St), TX z5 → Same [] [5] z z5 → 0 ≤ v3.toInt → v3.toInt ≤ (gI z 105).toInt → (∀ t : Nat, t < 168 → gF z5 5 t = prF (gF z 2) (gF z 3) (gF z 4) (gI z 106) (nI t) b2 v3.toNatClampNeg) → (400 - v3.toInt).toNat < n → K4 v3 z5 := by
    intro n
    induction n with
    | zero => intro v3 z5 _ _ _ _ _ q; omega
    | succ n ih =>
      intro v3 z5 t5 s5 g0 g1 hp gm
      have cv := clampN g0
      have r105 : gI z5 105 = gI z 105 := s5.1 105 (by decide)
      have r2 : gF z5 2 = gF z 2 := s5.2 2 (by decide)
      have r3 : gF z5 3 = gF z 3 := s5.2 3 (by decide)
      have r4 : gF z5 4 = gF z 4 := s5.2 4 (by decide)
      have f2 : 0 ≤ (gF z 2 v3.toNatClampNeg).toInt ∧ (gF z 2 v3.toNatClampNeg).toInt ≤ 167 := ht.2 2 _
      have c2 := clampN f2.1
      refine hK4 v3 z5 ⟨fun c => ?_, fun c => ?_⟩
      · rw [r105] at c
        have c' := i_le rfl rfl c
        rw [show v3.toNatClampNeg = (gI z 105).toNatClampNeg by omega] at hp
        exact hk z5 t5 s5 hp
      · rw [r105] at c
        have c' := i_nle rfl rfl c
        have hv : vp_in v3 400 := vin rfl g0 (by omega)
        refine ⟨hv, ?_⟩
        rw [r2, r3, r4]
        intro K7 hK7
        have next : ∀ z8 : St, TX z8 → Same [] [5] z z8 → (∀ t : Nat, t < 168 → gF z8 5 t = prF (gF z 2) (gF z 3) (gF z 4) (gI z 106) (nI t) b2 (v3.toNatClampNeg + 1)) → K7 z8 := by
          intro z8 t8 s8 hp8
          refine hK7 z8 (fun x9 e9 => ?_)
          have i9 : x9.toInt = v3.toInt + 1 := by rw [e9]; exact a_add rfl rfl (by omega) (by omega)
          have c9 := clampN (x := x9) (by omega)
          exact ih x9 z8 t8 s8 (by omega) (by omega) (by rw [show x9.toNatClampNeg = v3.toNatClampNeg + 1 by omega]; exact hp8) (by omega)
        refine ⟨fun cb => next z5 t5 s5 (fun t h168 => ?_), fun cb => ⟨hv, hv, vin rfl f2.1 (by omega), ?_⟩⟩
        · rw [hp t h168]
          show _ = (if gF z 2 v3.toNatClampNeg = nI t then (if b2 < gF z 4 v3.toNatClampNeg then prF (gF z 2) (gF z 3) (gF z 4) (gI z 106) (nI t) b2 v3.toNatClampNeg else gF z 3 v3.toNatClampNeg) else prF (gF z 2) (gF z 3) (gF z 4) (gI z 106) (nI t) b2 v3.toNatClampNeg)
          by_cases e : gF z 2 v3.toNatClampNeg = nI t
          · rw [if_pos e, if_pos cb]
          · rw [if_neg e]
        · intro z11 e11
          refine next z11 (by rw [e11]; exact Ty_wR t5 trivial) (s5.r (by decide) e11) (fun t h168 => ?_)
          rw [e11, gF_upd]
          show _ = (if gF z 2 v3.toNatClampNeg = nI t then (if b2 < gF z 4 v3.toNatClampNeg then prF (gF z 2) (gF z 3) (gF z 4) (gI z 106) (nI t) b2 v3.toNatClampNeg else gF z 3 v3.toNatClampNeg) else prF (gF z 2) (gF z 3) (gF z 4) (gI z 106) (nI t) b2 v3.toNatClampNeg)
          by_cases e : gF z 2 v3.toNatClampNeg = nI t
          · rw [if_pos e, if_neg cb, if_pos (by rw [e, nI_clamp (by omega)])]
          · rw [if_neg e, if_neg (fun q => e (by rw [q]; exact nI_cl f2.1)), hp t h168]
  exact L 401 0 z1 t1 s1 (by decide) (by have : (0 : Int32).toInt = 0 := rfl; omega) (fun t ht' => g1 t ht') (by have : (0 : Int32).toInt = 0 := rfl; omega)
theorem v_fill_6 (b : Int32) (z : St) (P : St → Prop) (ht : TX z) (hk : ∀ (z2 : St), TX z2 → Same [] [6] z z2 → (∀ x : Nat, x < 168 → gF z2 6 x = b) → P z2) : wp_J7_fill_53178_6 b z P := by
  have e00 : (0 : Int32).toInt = 0 := rfl
  have e05 : (168 : Int32).toInt = 168 := rfl
  unfold wp_J7_fill_53178_6
  intro K3 hK3
  have L : ∀ (n : Nat) (v1 : Int32) (z4 : St), TX z4 → Same [] [6] z z4 → 0 ≤ v1.toInt → v1.toInt ≤ 168 → (∀ x : Nat, (x : Int) < v1.toInt → gF z4 6 x = b) → (168 - v1.toInt).toNat < n → K3 v1 168 z4 := by
    intro n
    induction n with
    | zero => intro v1 z4 _ _ _ _ _ q; omega
    | succ n ih =>
      intro v1 z4 t4 s4 g0 g1 gz gm
      refine hK3 v1 168 z4 ⟨fun c => hk z4 t4 s4 (fun x hx => gz x (by have := i_le (p := 168) rfl rfl c; omega)), fun c => ?_⟩
      have c' := i_nle (p := 168) rfl rfl c
      have cv := clampN g0
      refine ⟨vin rfl g0 (by omega), ?_⟩
      intro z6 e6 x7 e7
      have i7 : x7.toInt = v1.toInt + 1 := by rw [e7]; exact a_add rfl rfl (by omega) (by omega)
      refine ih x7 z6 (by rw [e6]; exact Ty_wR t4 trivial) (s4.r (by decide) e6) (by omega) (by omega) (fun x hx => ?_) (by omega)
      rw [e6, gF_upd]
      by_cases e : x = v1.toNatClampNeg
      · rw [if_pos e]
      · rw [if_neg e]; exact gz x (by omega)
  exact L 169 0 z ht Same.rf (by omega) (by omega) (fun x hx => by omega) (by omega)
/-- a row of prices, laid as they were known -/
theorem v_X3_lay_6 (b2 : Int32) (z : St) (P : St → Prop) (ht : TX z) (hk : ∀ (z2 : St), TX z2 → Same [] [6] z z2 → (∀ t : Nat, t < 168 → gF z2 6 t = prF (gF z 2) (gF z 3) (gF z 4) (gI z 106) (nI t) b2 (gI z 105).toNatClampNeg) → P z2) : wp_X3_lay_6 b2 z P := by
  have f : 0 ≤ (gI z 105).toInt ∧ (gI z 105).toInt ≤ 400 := ht.1 105
  have cf := clampN f.1
  unfold wp_X3_lay_6
  refine v_fill_6 _ _ _ ht (fun z1 t1 s1 g1 => ?_)
  intro K4 hK4
  have L : ∀ (n : Nat) (v3 : Int32) (z5 : St), TX z5 → Same [] [6] z z5 → 0 ≤ v3.toInt → v3.toInt ≤ (gI z 105).toInt → (∀ t : Nat, t < 168 → gF z5 6 t = prF (gF z 2) (gF z 3) (gF z 4) (gI z 106) (nI t) b2 v3.toNatClampNeg) → (400 - v3.toInt).toNat < n → K4 v3 z5 := by
    intro n
    induction n with
    | zero => intro v3 z5 _ _ _ _ _ q; omega
    | succ n ih =>
      intro v3 z5 t5 s5 g0 g1 hp gm
      have cv := clampN g0
      have r105 : gI z5 105 = gI z 105 := s5.1 105 (by decide)
      have r2 : gF z5 2 = gF z 2 := s5.2 2 (by decide)
      have r3 : gF z5 3 = gF z 3 := s5.2 3 (by decide)
      have r4 : gF z5 4 = gF z 4 := s5.2 4 (by decide)
      have f2 : 0 ≤ (gF z 2 v3.toNatClampNeg).toInt ∧ (gF z 2 v3.toNatClampNeg).toInt ≤ 167 := ht.2 2 _
      have c2 := clampN f2.1
      refine hK4 v3 z5 ⟨fun c => ?_, fun c => ?_⟩
      · rw [r105] at c
        have c' := i_le rfl rfl c
        rw [show v3.toNatClampNeg = (gI z 105).toNatClampNeg by omega] at hp
        exact hk z5 t5 s5 hp
      · rw [r105] at c
        have c' := i_nle rfl rfl c
        have hv : vp_in v3 400 := vin rfl g0 (by omega)
        refine ⟨hv, ?_⟩
        rw [r2, r3, r4]
        intro K7 hK7
        have next : ∀ z8 : St, TX z8 → Same [] [6] z z8 → (∀ t : Nat, t < 168 → gF z8 6 t = prF (gF z 2) (gF z 3) (gF z 4) (gI z 106) (nI t) b2 (v3.toNatClampNeg + 1)) → K7 z8 := by
          intro z8 t8 s8 hp8
          refine hK7 z8 (fun x9 e9 => ?_)
          have i9 : x9.toInt = v3.toInt + 1 := by rw [e9]; exact a_add rfl rfl (by omega) (by omega)
          have c9 := clampN (x := x9) (by omega)
          exact ih x9 z8 t8 s8 (by omega) (by omega) (by rw [show x9.toNatClampNeg = v3.toNatClampNeg + 1 by omega]; exact hp8) (by omega)
        refine ⟨fun cb => next z5 t5 s5 (fun t h168 => ?_), fun cb => ⟨hv, hv, vin rfl f2.1 (by omega), ?_⟩⟩
        · rw [hp t h168]
          show _ = (if gF z 2 v3.toNatClampNeg = nI t then (if b2 < gF z 4 v3.toNatClampNeg then prF (gF z 2) (gF z 3) (gF z 4) (gI z 106) (nI t) b2 v3.toNatClampNeg else gF z 3 v3.toNatClampNeg) else prF (gF z 2) (gF z 3) (gF z 4) (gI z 106) (nI t) b2 v3.toNatClampNeg)
          by_cases e : gF z 2 v3.toNatClampNeg = nI t
          · rw [if_pos e, if_pos cb]
          · rw [if_neg e]
        · intro z11 e11
          refine next z11 (by rw [e11]; exact Ty_wR t5 trivial) (s5.r (by decide) e11) (fun t h168 => ?_)
          rw [e11, gF_upd]
          show _ = (if gF z 2 v3.toNatClampNeg = nI t then (if b2 < gF z 4 v3.toNatClampNeg then prF (gF z 2) (gF z 3) (gF z 4) (gI z 106) (nI t) b2 v3.toNatClampNeg else gF z 3 v3.toNatClampNeg) else prF (gF z 2) (gF z 3) (gF z 4) (gI z 106) (nI t) b2 v3.toNatClampNeg)
          by_cases e : gF z 2 v3.toNatClampNeg = nI t
          · rw [if_pos e, if_neg cb, if_pos (by rw [e, nI_clamp (by omega)])]
          · rw [if_neg e, if_neg (fun q => e (by rw [q]; exact nI_cl f2.1)), hp t h168]
  exact L 401 0 z1 t1 s1 (by decide) (by have : (0 : Int32).toInt = 0 := rfl; omega) (fun t ht' => g1 t ht') (by have : (0 : Int32).toInt = 0 := rfl; omega)
def GL (b1 : Int32) : Prop := -1000 ≤ b1.toInt ∧ b1.toInt ≤ 10000
theorem v_X8_plain (b1 : Int32) (z : St) (P : Int32 → St → Prop) (ht : TX z) (hR : ¬ GL b1 → ∀ (r : Int32) (z2 : St), TX z2 → Same [8] [] z z2 → P r z2) (hS : GL b1 → ∀ (r : Int32) (z2 : St), TX z2 → Same [8, 106] [5] z z2 → gI z2 106 = b1 → (∀ t : Nat, t < 168 → gF z2 5 t = prF (gF z 2) (gF z 3) (gF z 4) b1 (nI t) (gI z 2104) (gI z 105).toNatClampNeg) → P r z2) : wp_X8_plain b1 z P := by
  unfold wp_X8_plain
  refine s_X8_isPrice _ _ _ ht (fun r2 h2 => ⟨fun c => ?_, fun c => ?_⟩)
  · intro x4 e4 z5 e5
    have t5 : TX z5 := by rw [e5]; exact Ty_wI ht trivial
    have q106 : gI z5 106 = b1 := by rw [e5]; rfl
    have q105 : gI z5 105 = gI z 105 := by rw [e5]; rfl
    have q2104 : gI z5 2104 = gI z 2104 := by rw [e5]; rfl
    have q2 : gF z5 2 = gF z 2 := by rw [e5]; rfl
    have q3 : gF z5 3 = gF z 3 := by rw [e5]; rfl
    have q4 : gF z5 4 = gF z 4 := by rw [e5]; rfl
    refine v_X3_lay_5 _ _ _ t5 (fun z6 t6 s6 g6 => ?_)
    rw [q106, q105, q2104, q2, q3, q4] at g6
    have s6' : Same [8, 106] [5] z z6 := (Same.rf.i (by decide) e5).tr s6 (by decide) (by decide)
    refine s_X8_accept _ _ _ t6 (fun r z3 t3 s3 _ => hS (or1 h2 c) r z3 t3 (s6'.tr s3 (by decide) (by decide)) ?_ (fun t h168 => ?_))
    · rw [s3.1 106 (by decide), s6.1 106 (by decide), q106]
    · rw [s3.2 5 (by decide)]; exact g6 t h168
  · refine s_X8_refuse _ _ _ ht (fun r z2 t2 s2 _ => hR (fun g => ?_) _ z2 t2 s2)
    have := or0 h2 c
    unfold GL at g
    omega
theorem v_X8_price (b1 b2 b3 : Int32) (z : St) (P : Int32 → St → Prop) (ht : TX z) (hR : ¬ GP (gI z 105).toInt b1 b2 b3 → ∀ (r : Int32) (z2 : St), TX z2 → Same [8] [] z z2 → P r z2) (hS : GP (gI z 105).toInt b1 b2 b3 → ∀ (r : Int32) (z2 : St), TX z2 → Same [8, 105] [2, 3, 4, 5] z z2 → (gI z2 105).toInt = (gI z 105).toInt + 1 → gF z2 2 = upd (gF z 2) (gI z 105).toNatClampNeg b1 → gF z2 3 = upd (gF z 3) (gI z 105).toNatClampNeg b2 → gF z2 4 = upd (gF z 4) (gI z 105).toNatClampNeg b3 → (gI z 2104 < b3 → gF z2 5 = gF z 5) → (¬ gI z 2104 < b3 → gF z2 5 = upd (gF z 5) b1.toNatClampNeg b2) → P r z2) : wp_X8_price b1 b2 b3 z P := by
  unfold wp_X8_price
  refine s_X8_isHour _ _ _ ht (fun r2 h2 => ?_)
  intro K3 hK3
  have bad : ¬ GP (gI z 105).toInt b1 b2 b3 → K3 := fun hb => hK3 (rf8 _ ht (hR hb))
  refine ⟨fun c => bad (fun g => ?_), fun c => ?_⟩
  · have := or0 h2 c
    have := g.1
    omega
  have q2 := or1 h2 c
  refine s_X8_isPrice _ _ _ ht (fun r8 h8 => ⟨fun c8 => bad (fun g => ?_), fun c8 => ?_⟩)
  · have := or0 h8 c8
    have := g.2.1
    omega
  have q8 := or1 h8 c8
  refine s_X8_isKnown _ _ _ ht (fun r11 h11 => ⟨fun c11 => ?_, fun c11 => bad (fun g => ?_)⟩)
  · have q11 := or1 h11 c11
    refine ⟨fun cl => ?_, fun cl => rf8 _ ht (hR (fun g => ?_))⟩
    · have cl' : (gI z 105).toInt < 400 := i_lt rfl rfl cl
      refine k_X3_tell _ _ _ _ _ ht q2 (by omega) (fun z14 t14 s14 n14 a2 a3 a4 => ?_)
      have s14' : Same [8, 105] [2, 3, 4, 5] z z14 := Same.tr (z1 := z) Same.rf s14 (by decide) (by decide)
      have r2104 : gI z14 2104 = gI z 2104 := s14.1 2104 (by decide)
      have r5 : gF z14 5 = gF z 5 := s14.2 5 (by decide)
      intro K16 hK16
      rw [r2104, r5]
      have h16 : ∀ z17 : St, TX z17 → Same [8, 105] [2, 3, 4, 5] z z17 → gI z17 105 = gI z14 105 → gF z17 2 = gF z14 2 → gF z17 3 = gF z14 3 → gF z17 4 = gF z14 4 → (gI z 2104 < b3 → gF z17 5 = gF z 5) → (¬ gI z 2104 < b3 → gF z17 5 = upd (gF z 5) b1.toNatClampNeg b2) → K16 z17 := by
        intro z17 t17 s17 w5 w2 w3 w4 u1 u2
        refine hK16 z17 (s_X8_accept _ _ _ t17 (fun r z3 t3 s3 _ => hS ⟨q2, q8, q11, cl'⟩ r z3 t3 (s17.tr s3 (by decide) (by decide)) ?_ ?_ ?_ ?_ (fun q => ?_) (fun q => ?_)))
        · rw [s3.1 105 (by decide), w5]; exact n14
        · rw [s3.2 2 (by decide), w2]; exact a2
        · rw [s3.2 3 (by decide), w3]; exact a3
        · rw [s3.2 4 (by decide), w4]; exact a4
        · rw [s3.2 5 (by decide)]; exact u1 q
        · rw [s3.2 5 (by decide)]; exact u2 q
      refine ⟨fun cb => h16 z14 t14 s14' rfl rfl rfl rfl (fun _ => r5) (fun q => absurd cb q), fun cb => ⟨vin rfl q2.1 (by omega), ?_⟩⟩
      intro z21 e21
      rw [← r5] at e21
      exact h16 z21 (by rw [e21]; exact Ty_wR t14 trivial) (s14'.r (by decide) e21) (by rw [e21]; rfl) (by rw [e21]; rfl) (by rw [e21]; rfl) (by rw [e21]; rfl) (fun q => absurd q cb) (fun _ => by rw [e21, gF_wR, r5])
    · have cl' : 400 ≤ (gI z 105).toInt := i_nlt rfl rfl cl
      have := g.2.2.2
      omega
  · have := or0 h11 c11
    have := g.2.2.1
    omega
