-- CALLS OF BOTH SIDES, with what they write: jobs
def GW (b2 b3 b4 b5 b6 b7 b8 : Int32) : Prop := (0 ≤ b2.toInt ∧ b2.toInt ≤ 167) ∧ (0 ≤ b3.toInt ∧ b3.toInt ≤ 167) ∧ b2.toInt ≤ b3.toInt ∧ b3.toInt - b2.toInt ≤ 23 ∧ (1 ≤ b4.toInt ∧ b4.toInt ≤ 4) ∧ (0 ≤ b5.toInt ∧ b5.toInt ≤ 5000) ∧ (2 ≤ b4.toInt → 0 ≤ b6.toInt ∧ b6.toInt ≤ 5000) ∧ (3 ≤ b4.toInt → 0 ≤ b7.toInt ∧ b7.toInt ≤ 5000) ∧ (4 ≤ b4.toInt → 0 ≤ b8.toInt ∧ b8.toInt ≤ 5000)
def GQ (h n : Int) (b1 b2 b3 b4 b5 b6 b7 b8 : Int32) : Prop := GW b2 b3 b4 b5 b6 b7 b8 ∧ (0 ≤ b1.toInt ∧ b1.toInt < h) ∧ n < 16
def N4 (f : Nat → Int32) (n : Nat) (a b c d : Int32) : Nat → Int32 := upd (upd (upd (upd f (4 * n) a) (4 * n + 1) b) (4 * n + 2) c) (4 * n + 3) d
theorem v_X1_add (b1 b2 b3 b4 : Int32) (z : St) (P : Int32 → St → Prop) (ht : TX z) (hrx : RX z) (h0 : 0 ≤ b1.toInt ∧ b1.toInt ≤ 3) (h1 : 0 ≤ b2.toInt ∧ b2.toInt ≤ 167) (h2 : 0 ≤ b3.toInt ∧ b3.toInt ≤ 167) (h3 : 0 ≤ b4.toInt ∧ b4.toInt ≤ 4) (h4 : (gI z 1308).toInt ≤ 15) (h5 : b3.toInt - b2.toInt ≤ 23) (hk : ∀ z2 : St, TX z2 → RX z2 → Same [1308] [14, 15, 16, 17, 19, 20] z z2 → gI z2 1308 = gI z 1308 + 1 → gF z2 14 = upd (gF z 14) (gI z 1308).toNatClampNeg b1 → gF z2 15 = upd (gF z 15) (gI z 1308).toNatClampNeg b2 → gF z2 16 = upd (gF z 16) (gI z 1308).toNatClampNeg b3 → gF z2 17 = upd (gF z 17) (gI z 1308).toNatClampNeg b4 → gF z2 19 = upd (gF z 19) (gI z 1308).toNatClampNeg 0 → gF z2 20 = upd (gF z 20) (gI z 1308).toNatClampNeg (-1) → P (gI z2 1308 - 1) z2) : wp_X1_add b1 b2 b3 b4 z P := by
  have f : 0 ≤ (gI z 1308).toInt ∧ (gI z 1308).toInt ≤ 16 := ht.1 1308
  have cf := clampN f.1
  have hv : vp_in (gI z 1308) 16 := vin rfl f.1 (by omega)
  unfold wp_X1_add
  refine ⟨hv, ?_⟩
  intro z1 e1
  have q1 : gI z1 1308 = gI z 1308 := by rw [e1]; rfl
  rw [q1]
  refine ⟨hv, ?_⟩
  intro z2 e2
  have q2 : gI z2 1308 = gI z 1308 := by rw [e2]; exact q1
  rw [q2]
  refine ⟨hv, ?_⟩
  intro z3 e3
  have q3 : gI z3 1308 = gI z 1308 := by rw [e3]; exact q2
  rw [q3]
  refine ⟨hv, ?_⟩
  intro z4 e4
  have q4 : gI z4 1308 = gI z 1308 := by rw [e4]; exact q3
  rw [q4]
  refine ⟨hv, ?_⟩
  intro z5 e5
  have q5 : gI z5 1308 = gI z 1308 := by rw [e5]; exact q4
  rw [q5]
  refine ⟨hv, ?_⟩
  intro z6 e6 z7 e7
  have q6 : gI z6 1308 = gI z 1308 := by rw [e6]; exact q5
  rw [q6] at e7
  have t1 : TX z1 := by rw [e1]; exact Ty_wR ht h0
  have t2 : TX z2 := by rw [e2]; exact Ty_wR t1 h1
  have t3 : TX z3 := by rw [e3]; exact Ty_wR t2 h2
  have t4 : TX z4 := by rw [e4]; exact Ty_wR t3 h3
  have t5 : TX z5 := by rw [e5]; exact Ty_wR t4 (show 0 ≤ (0 : Int32).toInt ∧ (0 : Int32).toInt ≤ 2 by decide)
  have t6 : TX z6 := by rw [e6]; exact Ty_wR t5 (show -1 ≤ (-1 : Int32).toInt ∧ (-1 : Int32).toInt ≤ 167 by decide)
  have i7 : (gI z 1308 + (1 : Int32)).toInt = (gI z 1308).toInt + 1 := a_add rfl rfl (by omega) (by omega)
  have t7 : TX z7 := by rw [e7]; exact Ty_wI t6 (show 0 ≤ (gI z 1308 + (1 : Int32)).toInt ∧ (gI z 1308 + (1 : Int32)).toInt ≤ 16 by omega)
  have s7 : Same [1308] [14, 15, 16, 17, 19, 20] z z7 := ((((((Same.rf.r (by decide) e1).r (by decide) e2).r (by decide) e3).r (by decide) e4).r (by decide) e5).r (by decide) e6).i (by decide) e7
  have g1308 : gI z7 1308 = gI z 1308 + 1 := by rw [e7]; rfl
  have a14 : gF z7 14 = upd (gF z 14) (gI z 1308).toNatClampNeg b1 := by rw [e7, e6, e5, e4, e3, e2]; show gF z1 14 = _; rw [e1, gF_wR]
  have a15 : gF z7 15 = upd (gF z 15) (gI z 1308).toNatClampNeg b2 := by rw [e7, e6, e5, e4, e3]; show gF z2 15 = _; rw [e2, gF_wR, e1]; rfl
  have a16 : gF z7 16 = upd (gF z 16) (gI z 1308).toNatClampNeg b3 := by rw [e7, e6, e5, e4]; show gF z3 16 = _; rw [e3, gF_wR, e2, e1]; rfl
  have a17 : gF z7 17 = upd (gF z 17) (gI z 1308).toNatClampNeg b4 := by rw [e7, e6, e5]; show gF z4 17 = _; rw [e4, gF_wR, e3, e2, e1]; rfl
  have a19 : gF z7 19 = upd (gF z 19) (gI z 1308).toNatClampNeg 0 := by rw [e7, e6]; show gF z5 19 = _; rw [e5, gF_wR, e4, e3, e2, e1]; rfl
  have a20 : gF z7 20 = upd (gF z 20) (gI z 1308).toNatClampNeg (-1) := by rw [e7]; show gF z6 20 = _; rw [e6, gF_wR, e5, e4, e3, e2, e1]; rfl
  exact hk z7 t7 (RX_add hrx cf h5 (fun j => by rw [a15]; rfl) (fun j => by rw [a16]; rfl) (fun j => by rw [a17]; rfl) (fun j => by rw [a19]; rfl) (fun j => by rw [a20]; rfl) (by rw [g1308]; exact i7)) s7 g1308 a14 a15 a16 a17 a19 a20
theorem ix4 {b1 : Int32} {n : Nat} (h : b1.toInt = (n : Int)) (h1 : n ≤ 15) : (vp_in (b1 * (4 : Int32)) 64 ∧ vp_in (b1 * (4 : Int32) + 1) 64 ∧ vp_in (b1 * (4 : Int32) + 2) 64 ∧ vp_in (b1 * (4 : Int32) + 3) 64) ∧ (b1 * (4 : Int32)).toNatClampNeg = 4 * n ∧ (b1 * (4 : Int32) + 1).toNatClampNeg = 4 * n + 1 ∧ (b1 * (4 : Int32) + 2).toNatClampNeg = 4 * n + 2 ∧ (b1 * (4 : Int32) + 3).toNatClampNeg = 4 * n + 3 := by
  have m : (b1 * (4 : Int32)).toInt = (n : Int) * 4 := a_mul h (show (4 : Int32).toInt = 4 from rfl) (by omega) (by omega)
  have m1 : (b1 * (4 : Int32) + 1).toInt = (n : Int) * 4 + 1 := a_add m (show (1 : Int32).toInt = 1 from rfl) (by omega) (by omega)
  have m2 : (b1 * (4 : Int32) + 2).toInt = (n : Int) * 4 + 2 := a_add m (show (2 : Int32).toInt = 2 from rfl) (by omega) (by omega)
  have m3 : (b1 * (4 : Int32) + 3).toInt = (n : Int) * 4 + 3 := a_add m (show (3 : Int32).toInt = 3 from rfl) (by omega) (by omega)
  have c := clampN (x := b1 * (4 : Int32)) (by omega)
  have c1 := clampN (x := b1 * (4 : Int32) + 1) (by omega)
  have c2 := clampN (x := b1 * (4 : Int32) + 2) (by omega)
  have c3 := clampN (x := b1 * (4 : Int32) + 3) (by omega)
  exact ⟨⟨vin m (by omega) (by omega), vin m1 (by omega) (by omega), vin m2 (by omega) (by omega), vin m3 (by omega) (by omega)⟩, by omega, by omega, by omega, by omega⟩
theorem v_X1_setNeeds (b1 b2 b3 b4 b5 : Int32) (z : St) (P : St → Prop) (n : Nat) (ht : TX z) (hb : b1.toInt = (n : Int)) (hn : n ≤ 15) (hk : ∀ z2 : St, TX z2 → Same [] [18] z z2 → gF z2 18 = N4 (gF z 18) n b2 b3 b4 b5 → P z2) : wp_X1_setNeeds b1 b2 b3 b4 b5 z P := by
  obtain ⟨⟨v0, v1, v2, v3⟩, c0, c1, c2, c3⟩ := ix4 hb hn
  unfold wp_X1_setNeeds
  rw [c0, c1, c2, c3]
  refine ⟨v0, ?_⟩
  intro z1 e1
  refine ⟨v1, ?_⟩
  intro z2 e2
  refine ⟨v2, ?_⟩
  intro z3 e3
  refine ⟨v3, ?_⟩
  intro z4 e4
  have t1 : TX z1 := by rw [e1]; exact Ty_wR ht trivial
  have t2 : TX z2 := by rw [e2]; exact Ty_wR t1 trivial
  have t3 : TX z3 := by rw [e3]; exact Ty_wR t2 trivial
  have t4 : TX z4 := by rw [e4]; exact Ty_wR t3 trivial
  refine hk z4 t4 ((((Same.rf.r (by decide) e1).r (by decide) e2).r (by decide) e3).r (by decide) e4) ?_
  rw [e4, gF_wR, e3, gF_wR, e2, gF_wR, e1, gF_wR]
  rfl
set_option maxHeartbeats 1000000 in
theorem v_X8_job (b1 b2 b3 b4 b5 b6 b7 b8 : Int32) (z : St) (P : Int32 → St → Prop) (ht : TX z) (hrx : RX z) (hR : ¬ GQ (gI z 705).toInt (gI z 1308).toInt b1 b2 b3 b4 b5 b6 b7 b8 → ∀ (r : Int32) (z2 : St), TX z2 → Same [8] [] z z2 → P r z2) (hS : GQ (gI z 705).toInt (gI z 1308).toInt b1 b2 b3 b4 b5 b6 b7 b8 → ∀ (r : Int32) (z2 : St), TX z2 → RX z2 → Same [8, 1308] [14, 15, 16, 17, 18, 19, 20] z z2 → gI z2 1308 = gI z 1308 + 1 → gF z2 14 = upd (gF z 14) (gI z 1308).toNatClampNeg b1 → gF z2 15 = upd (gF z 15) (gI z 1308).toNatClampNeg b2 → gF z2 16 = upd (gF z 16) (gI z 1308).toNatClampNeg b3 → gF z2 17 = upd (gF z 17) (gI z 1308).toNatClampNeg b4 → gF z2 18 = N4 (gF z 18) (gI z 1308).toNatClampNeg b5 b6 b7 b8 → gF z2 19 = upd (gF z 19) (gI z 1308).toNatClampNeg 0 → gF z2 20 = upd (gF z 20) (gI z 1308).toNatClampNeg (-1) → P r z2) : wp_X8_job b1 b2 b3 b4 b5 b6 b7 b8 z P := by
  have f : 0 ≤ (gI z 1308).toInt ∧ (gI z 1308).toInt ≤ 16 := ht.1 1308
  have f7 : 0 ≤ (gI z 705).toInt ∧ (gI z 705).toInt ≤ 4 := ht.1 705
  have cf := clampN f.1
  have bad0 : ∀ v : Int32, ¬ GQ (gI z 705).toInt (gI z 1308).toInt b1 b2 b3 b4 b5 b6 b7 b8 → wp_X8_refuse v z (fun r z2 => P r z2) := fun v hb => rf8 _ ht (hR hb)
  unfold wp_X8_job
  refine s_X8_isHour _ _ _ ht (fun r2 h2 => ?_)
  intro K3 hK3
  have bad : ¬ GW b2 b3 b4 b5 b6 b7 b8 → K3 := fun hb => hK3 (bad0 _ (fun g => hb g.1))
  refine ⟨fun c => bad (fun g => ?_), fun c => ?_⟩
  · have := or0 h2 c
    have := g.1
    omega
  have q2 := or1 h2 c
  refine s_X8_isHour _ _ _ ht (fun r8 h8 => ⟨fun c8 => bad (fun g => ?_), fun c8 => ?_⟩)
  · have := or0 h8 c8
    have := g.2.1
    omega
  have q3 := or1 h8 c8
  refine ⟨fun c9 => bad (fun g => ?_), fun c9 => ?_⟩
  · have := i_lt rfl rfl c9
    have := g.2.2.1
    omega
  have q4 := i_nlt rfl rfl c9
  have i10 : (b3 - b2).toInt = b3.toInt - b2.toInt := a_sub rfl rfl (by omega) (by omega)
  refine ⟨fun c10 => bad (fun g => ?_), fun c10 => ?_⟩
  · have := i_le (p := 24) rfl i10 c10
    have := g.2.2.2.1
    omega
  have q5 := i_nle (p := 24) rfl i10 c10
  refine ⟨fun c11 => bad (fun g => ?_), fun c11 => ?_⟩
  · have := i_lt (q := 1) rfl rfl c11
    have := g.2.2.2.2.1
    omega
  have q6 := i_nlt (q := 1) rfl rfl c11
  refine ⟨fun c12 => ?_, fun c12 => bad (fun g => ?_)⟩
  · have q7 := i_le (q := 4) rfl rfl c12
    refine s_X8_isNeed _ _ _ ht (fun r15 h15 => ?_)
    intro K16 hK16
    have bad2 : ¬ GW b2 b3 b4 b5 b6 b7 b8 → K16 := fun hb => hK16 (bad0 _ (fun g => hb g.1))
    refine ⟨fun c15 => bad2 (fun g => ?_), fun c15 => ?_⟩
    · have := or0 h15 c15
      have := g.2.2.2.2.2.1
      omega
    have q8 := or1 h15 c15
    -- the needs stand: the rest
    have fin : GW b2 b3 b4 b5 b6 b7 b8 → wp_X0_has b1 z (fun r24 => (((¬ r24 = 0) → ((((gI z 1308) < ((16 : Int32))) → (wp_X1_add b1 b2 b3 b4 z (fun r28 z27 => (wp_X1_setNeeds r28 b5 b6 b7 b8 z27 (fun z29 => (wp_X8_accept r28 z29 (fun r32 z31 => P r32 z31))))))) ∧ (¬ ((gI z 1308) < ((16 : Int32))) → (wp_X8_refuse ((-5 : Int32)) z (fun r34 z33 => P r34 z33))))) ∧ (r24 = 0 → (wp_X8_refuse ((-2 : Int32)) z (fun r36 z35 => P r36 z35))))) := by
      intro gw
      refine s_X0_has _ _ _ ht (fun r24 h24 => ⟨fun c24 => ⟨fun cl => ?_, fun cl => bad0 _ (fun g => ?_)⟩, fun c24 => bad0 _ (fun g => ?_)⟩)
      · have cl' : (gI z 1308).toInt < 16 := i_lt rfl rfl cl
        have q24 := or1 h24 c24
        refine v_X1_add _ _ _ _ _ _ ht hrx (by omega) q2 q3 (by omega) (by omega) (by omega) (fun z27 t27 x27 s27 n27 a14 a15 a16 a17 a19 a20 => ?_)
        have ir : (gI z27 1308 - 1).toInt = ((gI z 1308).toNatClampNeg : Int) := by
          rw [n27, cf]
          have := a_sub (x := gI z 1308 + 1) (y := 1) (a_add (x := gI z 1308) (y := 1) rfl (show (1 : Int32).toInt = 1 from rfl) (by omega) (by omega)) (show (1 : Int32).toInt = 1 from rfl) (by omega) (by omega)
          omega
        refine v_X1_setNeeds _ _ _ _ _ _ _ (gI z 1308).toNatClampNeg t27 ir (by omega) (fun z29 t29 s29 a18 => ?_)
        rw [s27.2 18 (by decide)] at a18
        have s29' : Same [8, 1308] [14, 15, 16, 17, 18, 19, 20] z z29 := (Same.tr (z1 := z) Same.rf s27 (by decide) (by decide)).tr s29 (by decide) (by decide)
        refine s_X8_accept _ _ _ t29 (fun r z3 t3 s3 _ => hS ⟨gw, q24, cl'⟩ r z3 t3 (RX_same (RX_same x27 s29 (by decide) (by decide) (by decide) (by decide) (by decide) (by decide)) s3 (by decide) (by decide) (by decide) (by decide) (by decide) (by decide)) (s29'.tr s3 (by decide) (by decide)) ?_ ?_ ?_ ?_ ?_ ?_ ?_ ?_)
        · rw [s3.1 1308 (by decide), s29.1 1308 (by decide)]; exact n27
        · rw [s3.2 14 (by decide), s29.2 14 (by decide)]; exact a14
        · rw [s3.2 15 (by decide), s29.2 15 (by decide)]; exact a15
        · rw [s3.2 16 (by decide), s29.2 16 (by decide)]; exact a16
        · rw [s3.2 17 (by decide), s29.2 17 (by decide)]; exact a17
        · rw [s3.2 18 (by decide)]; exact a18
        · rw [s3.2 19 (by decide), s29.2 19 (by decide)]; exact a19
        · rw [s3.2 20 (by decide), s29.2 20 (by decide)]; exact a20
      · have cl' : 16 ≤ (gI z 1308).toInt := i_nlt rfl rfl cl
        have := g.2.2
        omega
      · have := or0 h24 c24
        have := g.2.1
        omega
    intro K20 hK20
    have k20 : (2 ≤ b4.toInt → 0 ≤ b6.toInt ∧ b6.toInt ≤ 5000) → K20 := by
      intro n6
      refine hK20 ?_
      intro K21 hK21
      have k21 : (3 ≤ b4.toInt → 0 ≤ b7.toInt ∧ b7.toInt ≤ 5000) → K21 := by
        intro n7
        refine hK21 ?_
        intro K22 hK22
        have k22 : (4 ≤ b4.toInt → 0 ≤ b8.toInt ∧ b8.toInt ≤ 5000) → K22 := fun n8 => hK22 (fin ⟨q2, q3, q4, by omega, ⟨q6, q7⟩, q8, n6, n7, n8⟩)
        refine ⟨fun cc => k22 (fun h => ?_), fun cc => ?_⟩
        · have := i_le (q := 3) rfl rfl cc
          omega
        · have cc' := i_nle (q := 3) rfl rfl cc
          refine s_X8_isNeed _ _ _ ht (fun r39 h39 => ⟨fun d => k22 (fun _ => or1 h39 d), fun d => bad2 (fun g => ?_)⟩)
          have := or0 h39 d
          have := g.2.2.2.2.2.2.2.2 (by omega)
          omega
      refine ⟨fun cc => k21 (fun h => ?_), fun cc => ?_⟩
      · have := i_le (q := 2) rfl rfl cc
        omega
      · have cc' := i_nle (q := 2) rfl rfl cc
        refine s_X8_isNeed _ _ _ ht (fun r43 h43 => ⟨fun d => bad2 (fun g => ?_), fun d => k21 (fun _ => or1 h43 d)⟩)
        have := or0 h43 d
        have := g.2.2.2.2.2.2.2.1 (by omega)
        omega
    refine ⟨fun cc => k20 (fun h => ?_), fun cc => ?_⟩
    · have := i_le (q := 1) rfl rfl cc
      omega
    · have cc' := i_nle (q := 1) rfl rfl cc
      refine s_X8_isNeed _ _ _ ht (fun r47 h47 => ⟨fun d => bad2 (fun g => ?_), fun d => k20 (fun _ => or1 h47 d)⟩)
      have := or0 h47 d
      have := g.2.2.2.2.2.2.1 (by omega)
      omega
  · have := i_nle (q := 4) rfl rfl c12
    have := g.2.2.2.2.1
    omega
set_option maxHeartbeats 1000000 in
theorem v_X9_job (b1 b2 b3 b4 b5 b6 b7 b8 : Int32) (z : St) (P : Int32 → St → Prop) (ht : TM z) (hR : ¬ GQ (gI z 8).toInt (gI z 12).toInt b1 b2 b3 b4 b5 b6 b7 b8 → ∀ (r : Int32) (z2 : St), TM z2 → Same [0, 1] [] z z2 → P r z2) (hS : GQ (gI z 8).toInt (gI z 12).toInt b1 b2 b3 b4 b5 b6 b7 b8 → ∀ (r : Int32) (z2 : St), TM z2 → Same [0, 1, 12] [6, 7, 8, 9, 10, 11, 12] z z2 → gI z2 12 = gI z 12 + 1 → gF z2 6 = upd (gF z 6) (gI z 12).toNatClampNeg b1 → gF z2 7 = upd (gF z 7) (gI z 12).toNatClampNeg b2 → gF z2 8 = upd (gF z 8) (gI z 12).toNatClampNeg b3 → gF z2 9 = upd (gF z 9) (gI z 12).toNatClampNeg b4 → gF z2 10 = N4 (gF z 10) (gI z 12).toNatClampNeg b5 b6 b7 b8 → gF z2 11 = upd (gF z 11) (gI z 12).toNatClampNeg 0 → gF z2 12 = upd (gF z 12) (gI z 12).toNatClampNeg (-1) → P r z2) : wp_X9_job b1 b2 b3 b4 b5 b6 b7 b8 z P := by
  have f : 0 ≤ (gI z 12).toInt ∧ (gI z 12).toInt ≤ 16 := ht.1 12
  have f8 : 0 ≤ (gI z 8).toInt ∧ (gI z 8).toInt ≤ 4 := ht.1 8
  have cf := clampN f.1
  unfold wp_X9_job
  intro z1 e1
  have t1 : TM z1 := by rw [e1]; exact Ty_wI ht trivial
  have s1 : Same [0, 1] [] z z1 := Same.rf.i (by decide) e1
  have y12 : gI z1 12 = gI z 12 := by rw [e1]; rfl
  have y8 : gI z1 8 = gI z 8 := by rw [e1]; rfl
  have bad0 : ∀ v : Int32, ¬ GQ (gI z 8).toInt (gI z 12).toInt b1 b2 b3 b4 b5 b6 b7 b8 → wp_X9_told v z1 (fun r z2 => P r z2) := fun v hb => rf9 _ t1 s1 (hR hb)
  refine s_X9_isHour _ _ _ t1 (fun r3 h3 => ?_)
  intro K5 hK5
  have k5 : ∀ s4 : Int32, (s4 = 1 ∧ (0 ≤ b2.toInt ∧ b2.toInt ≤ 167) ∧ (0 ≤ b3.toInt ∧ b3.toInt ≤ 167) ∧ b2.toInt ≤ b3.toInt ∧ b3.toInt - b2.toInt ≤ 23 ∧ (1 ≤ b4.toInt ∧ b4.toInt ≤ 4) ∧ (0 ≤ b5.toInt ∧ b5.toInt ≤ 5000)) ∨ (s4 = 0 ∧ ¬ GW b2 b3 b4 b5 b6 b7 b8) → K5 s4 := by
    intro s4 h4
    refine hK5 s4 ?_
    intro K7 hK7
    have k70 : ¬ GW b2 b3 b4 b5 b6 b7 b8 → K7 0 := fun hb => hK7 0 ⟨fun q => absurd rfl q, fun _ => bad0 _ (fun g => hb g.1)⟩
    have k71 : GW b2 b3 b4 b5 b6 b7 b8 → K7 1 := by
      intro gw
      refine hK7 1 ⟨fun _ => ?_, fun q => absurd q (by decide)⟩
      refine s_X9_isHome _ _ _ t1 (fun r10 h10 => ?_)
      rw [y8] at h10
      rw [y12]
      refine ⟨fun c10 => ⟨fun cl => ?_, fun cl => bad0 _ (fun g => ?_)⟩, fun c10 => bad0 _ (fun g => ?_)⟩
      · have q10 := or1 h10 c10
        have cl' := i_ne (q := 16) rfl rfl cl
        have hv : vp_in (gI z 12) 16 := vin rfl f.1 (by omega)
        obtain ⟨⟨v0, v1, v2, v3⟩, c0, c1, c2, c3⟩ := ix4 (b1 := gI z 12) (n := (gI z 12).toNatClampNeg) cf.symm (by omega)
        have mc : (4 : Int32) * gI z 12 = gI z 12 * 4 := Int32.mul_comm _ _
        refine ⟨hv, ?_⟩
        intro z13 e13
        have y13 : gI z13 12 = gI z 12 := by rw [e13]; exact y12
        rw [y13]
        refine ⟨hv, ?_⟩
        intro z14 e14
        have y14 : gI z14 12 = gI z 12 := by rw [e14]; exact y13
        rw [y14]
        refine ⟨hv, ?_⟩
        intro z15 e15
        have y15 : gI z15 12 = gI z 12 := by rw [e15]; exact y14
        rw [y15]
        refine ⟨hv, ?_⟩
        intro z16 e16
        have y16 : gI z16 12 = gI z 12 := by rw [e16]; exact y15
        rw [y16, mc, c0]
        refine ⟨v0, ?_⟩
        intro z17 e17
        have y17 : gI z17 12 = gI z 12 := by rw [e17]; exact y16
        rw [y17, mc, c1]
        refine ⟨v1, ?_⟩
        intro z18 e18
        have y18 : gI z18 12 = gI z 12 := by rw [e18]; exact y17
        rw [y18, mc, c2]
        refine ⟨v2, ?_⟩
        intro z19 e19
        have y19 : gI z19 12 = gI z 12 := by rw [e19]; exact y18
        rw [y19, mc, c3]
        refine ⟨v3, ?_⟩
        intro z20 e20
        have y20 : gI z20 12 = gI z 12 := by rw [e20]; exact y19
        rw [y20]
        refine ⟨hv, ?_⟩
        intro z21 e21
        have y21 : gI z21 12 = gI z 12 := by rw [e21]; exact y20
        rw [y21]
        refine ⟨hv, ?_⟩
        intro z22 e22 z23 e23
        have y22 : gI z22 12 = gI z 12 := by rw [e22]; exact y21
        rw [y22] at e23
        obtain ⟨w2, w3, w4, w5, w6, _⟩ := id gw
        have t13 : TM z13 := by rw [e13]; exact Ty_wR t1 (show 0 ≤ b1.toInt ∧ b1.toInt ≤ 3 by omega)
        have t14 : TM z14 := by rw [e14]; exact Ty_wR t13 w2
        have t15 : TM z15 := by rw [e15]; exact Ty_wR t14 w3
        have t16 : TM z16 := by rw [e16]; exact Ty_wR t15 (show 0 ≤ b4.toInt ∧ b4.toInt ≤ 4 by omega)
        have t17 : TM z17 := by rw [e17]; exact Ty_wR t16 trivial
        have t18 : TM z18 := by rw [e18]; exact Ty_wR t17 trivial
        have t19 : TM z19 := by rw [e19]; exact Ty_wR t18 trivial
        have t20 : TM z20 := by rw [e20]; exact Ty_wR t19 trivial
        have t21 : TM z21 := by rw [e21]; exact Ty_wR t20 trivial
        have t22 : TM z22 := by rw [e22]; exact Ty_wR t21 trivial
        have i23 : (gI z 12 + (1 : Int32)).toInt = (gI z 12).toInt + 1 := a_add rfl rfl (by omega) (by omega)
        have t23 : TM z23 := by rw [e23]; exact Ty_wI t22 (show 0 ≤ (gI z 12 + (1 : Int32)).toInt ∧ (gI z 12 + (1 : Int32)).toInt ≤ 16 by omega)
        have s16 : Same [0, 1, 12] [6, 7, 8, 9, 10, 11, 12] z z16 := ((((Same.tr (z1 := z) Same.rf s1 (by decide) (by decide)).r (by decide) e13).r (by decide) e14).r (by decide) e15).r (by decide) e16
        have s23 : Same [0, 1, 12] [6, 7, 8, 9, 10, 11, 12] z z23 := ((((((s16.r (by decide) e17).r (by decide) e18).r (by decide) e19).r (by decide) e20).r (by decide) e21).r (by decide) e22).i (by decide) e23
        refine s_X9_told _ _ _ t23 (fun r z3 t3 s3 _ => hS ⟨gw, q10, by omega⟩ r z3 t3 (s23.tr s3 (by decide) (by decide)) ?_ ?_ ?_ ?_ ?_ ?_ ?_ ?_)
        · rw [s3.1 12 (by decide), e23]; rfl
        · rw [s3.2 6 (by decide), e23, e22, e21, e20, e19, e18, e17, e16, e15, e14]; show gF z13 6 = _; rw [e13, gF_wR, e1]; rfl
        · rw [s3.2 7 (by decide), e23, e22, e21, e20, e19, e18, e17, e16, e15]; show gF z14 7 = _; rw [e14, gF_wR, e13, e1]; rfl
        · rw [s3.2 8 (by decide), e23, e22, e21, e20, e19, e18, e17, e16]; show gF z15 8 = _; rw [e15, gF_wR, e14, e13, e1]; rfl
        · rw [s3.2 9 (by decide), e23, e22, e21, e20, e19, e18, e17]; show gF z16 9 = _; rw [e16, gF_wR, e15, e14, e13, e1]; rfl
        · rw [s3.2 10 (by decide), e23, e22, e21]
          show gF z20 10 = _
          rw [e20, gF_wR, e19, gF_wR, e18, gF_wR, e17, gF_wR, e16, e15, e14, e13, e1]; rfl
        · rw [s3.2 11 (by decide), e23, e22]; show gF z21 11 = _; rw [e21, gF_wR, e20, e19, e18, e17, e16, e15, e14, e13, e1]; rfl
        · rw [s3.2 12 (by decide), e23]; show gF z22 12 = _; rw [e22, gF_wR, e21, e20, e19, e18, e17, e16, e15, e14, e13, e1]; rfl
      · have cl' : (gI z 12).toInt = 16 := i_eq rfl rfl cl
        have := g.2.2
        omega
      · have := or0 h10 c10
        have := g.2.1
        omega
    intro K32 hK32
    have k32 : ¬ GW b2 b3 b4 b5 b6 b7 b8 → K32 := fun hb => hK32 (k70 hb)
    refine ⟨fun c => k32 ?_, fun c => ?_⟩
    · exact or0 h4 c
    · have w := or1 h4 c
      intro K34 hK34
      have k34 : (2 ≤ b4.toInt → 0 ≤ b6.toInt ∧ b6.toInt ≤ 5000) → K34 := by
        intro n6
        refine hK34 ?_
        intro K35 hK35
        have k35 : (3 ≤ b4.toInt → 0 ≤ b7.toInt ∧ b7.toInt ≤ 5000) → K35 := by
          intro n7
          refine hK35 ?_
          intro K36 hK36
          have k36 : (4 ≤ b4.toInt → 0 ≤ b8.toInt ∧ b8.toInt ≤ 5000) → K36 := fun n8 => hK36 (k71 ⟨w.1, w.2.1, w.2.2.1, w.2.2.2.1, w.2.2.2.2.1, w.2.2.2.2.2, n6, n7, n8⟩)
          refine ⟨fun cc => k36 (fun h => ?_), fun cc => ?_⟩
          · have := i_lt (q := 4) rfl rfl cc
            omega
          · have cc' := i_nlt (q := 4) rfl rfl cc
            refine s_X9_in _ _ _ _ _ t1 (fun r39 h39 => ?_)
            have h39' := in9 (p := 0) (q := 5000) h39 rfl rfl
            refine ⟨fun d => k32 (fun g => ?_), fun d => k36 (fun _ => or1 h39' d)⟩
            have := or0 h39' d
            have := g.2.2.2.2.2.2.2.2 (by omega)
            omega
        refine ⟨fun cc => k35 (fun h => ?_), fun cc => ?_⟩
        · have := i_lt (q := 3) rfl rfl cc
          omega
        · have cc' := i_nlt (q := 3) rfl rfl cc
          refine s_X9_in _ _ _ _ _ t1 (fun r43 h43 => ?_)
          have h43' := in9 (p := 0) (q := 5000) h43 rfl rfl
          refine ⟨fun d => k32 (fun g => ?_), fun d => k35 (fun _ => or1 h43' d)⟩
          have := or0 h43' d
          have := g.2.2.2.2.2.2.2.1 (by omega)
          omega
      refine ⟨fun cc => k34 (fun h => ?_), fun cc => ?_⟩
      · have := i_lt (q := 2) rfl rfl cc
        omega
      · have cc' := i_nlt (q := 2) rfl rfl cc
        refine s_X9_in _ _ _ _ _ t1 (fun r47 h47 => ?_)
        have h47' := in9 (p := 0) (q := 5000) h47 rfl rfl
        refine ⟨fun d => k32 (fun g => ?_), fun d => k34 (fun _ => or1 h47' d)⟩
        have := or0 h47' d
        have := g.2.2.2.2.2.2.1 (by omega)
        omega
  intro K49 hK49
  have bad : ¬ GW b2 b3 b4 b5 b6 b7 b8 → K49 := fun hb => hK49 (k5 0 (Or.inr ⟨rfl, hb⟩))
  refine ⟨fun c => bad (fun g => ?_), fun c => ?_⟩
  · have := or0 h3 c
    have := g.1
    omega
  have q2 := or1 h3 c
  refine s_X9_isHour _ _ _ t1 (fun r52 h52 => ⟨fun c8 => bad (fun g => ?_), fun c8 => ?_⟩)
  · have := or0 h52 c8
    have := g.2.1
    omega
  have q3 := or1 h52 c8
  refine ⟨fun c9 => bad (fun g => ?_), fun c9 => ?_⟩
  · have := i_lt rfl rfl c9
    have := g.2.2.1
    omega
  have q4 := i_nlt rfl rfl c9
  have i10 : (b3 - b2).toInt = b3.toInt - b2.toInt := a_sub rfl rfl (by omega) (by omega)
  refine ⟨fun c10 => bad (fun g => ?_), fun c10 => ?_⟩
  · have := i_lt (p := 23) rfl i10 c10
    have := g.2.2.2.1
    omega
  have q5 := i_nlt (p := 23) rfl i10 c10
  refine s_X9_in _ _ _ _ _ t1 (fun r57 h57 => ?_)
  have h57' := in9 (p := 1) (q := 4) h57 rfl rfl
  refine ⟨fun c11 => bad (fun g => ?_), fun c11 => ?_⟩
  · have := or0 h57' c11
    have := g.2.2.2.2.1
    omega
  have q6 := or1 h57' c11
  refine s_X9_in _ _ _ _ _ t1 (fun r60 h60 => ?_)
  have h60' := in9 (p := 0) (q := 5000) h60 rfl rfl
  refine ⟨fun c12 => bad (fun g => ?_), fun c12 => k5 1 (Or.inl ⟨rfl, q2, q3, q4, q5, q6, or1 h60' c12⟩)⟩
  have := or0 h60' c12
  have := g.2.2.2.2.2.1
  omega
