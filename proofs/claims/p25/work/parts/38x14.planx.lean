-- BOTH SIDES SAY THE SAME OF A JOB THAT IS OPEN
def RE (zx zm : St) : Prop := (∀ h t : Nat, h < 4 → t < 24 → (Qx zx h t ↔ Qm zm (nI h) t)) ∧ (∀ t : Nat, t < 168 → (Dx zx t ↔ Dm zm t)) ∧ (∀ i j : Nat, i < 16 → j < 16 → (Bx zx i j ↔ Bm zm i j))
theorem MB_eq {zx zm : St} {st bg : Nat → Int32} {j : Nat} {h : Int} (se : SE zx zm) (tm : TM zm) (pe : PE zx (gI zm 12).toNatClampNeg (gF zm 6) (gF zm 9) (gF zm 10) st bg) (re : RE zx zm) (hst : ∀ o : Nat, (o : Int) < (gI zm 12).toInt → gF zx 19 o = st o) (hbg : ∀ o : Nat, (o : Int) < (gI zm 12).toInt → ¬ st o = 0 → gF zx 20 o = bg o) (hj : (j : Int) < (gI zm 12).toInt) (hs : st j = 0) : MBx zx j h ↔ MBg zm st bg j h := by
  have f12 : 0 ≤ (gI zm 12).toInt ∧ (gI zm 12).toInt ≤ 16 := tm.1 12
  have c12 := clampN f12.1
  have f9 : 0 ≤ (gF zm 9 j).toInt ∧ (gF zm 9 j).toInt ≤ 4 := tm.2 9 _
  have f6 : 0 ≤ (gF zm 6 j).toInt ∧ (gF zm 6 j).toInt ≤ 3 := tm.2 6 _
  have c6 := clampN f6.1
  have f7 : 0 ≤ (gF zm 7 j).toInt ∧ (gF zm 7 j).toInt ≤ 167 := tm.2 7 _
  obtain ⟨⟨s1, s2, s3, s4⟩, ⟨q14, q15, q16, q17, q18⟩, ⟨q8, q9⟩, sb, sh⟩ := id se
  have hT : TUx zx j h ↔ TUg zm st bg j h := by
    unfold TUx TUg TUp
    rw [s1, q17]
    constructor
    · intro hu o ho hso
      have := hu o ho (by rw [hst o (by omega)]; exact hso)
      rw [hbg o (by omega) hso] at this
      exact ⟨fun b => this.1 ((re.2.2 j o (by omega) (by omega)).mpr b), fun b => this.2 ((re.2.2 o j (by omega) (by omega)).mpr b)⟩
    · intro hu o ho hso
      rw [hst o (by omega)] at hso
      have := hu o ho hso
      rw [hbg o (by omega) hso]
      exact ⟨fun b => this.1 ((re.2.2 j o (by omega) (by omega)).mp b), fun b => this.2 ((re.2.2 o j (by omega) (by omega)).mp b)⟩
  have hk : ∀ k : Nat, 0 ≤ h → h + (gF zm 9 j).toInt ≤ 168 → (k : Int) < (gF zm 9 j).toInt → (((¬ Qx zx (gF zx 14 j).toNatClampNeg ((h.toNat + k) % 24) ∧ ¬ Dx zx (h.toNat + k)) ∧ (Fx zx (gF zx 14 j).toNatClampNeg (h.toNat + k) + gF zx 18 (4 * j + k) ≤ gF zx 8 (gF zx 14 j).toNatClampNeg ∧ Ax zx (h.toNat + k) + gF zx 18 (4 * j + k) ≤ gI zx 706)) ↔ ((¬ Qm zm (gF zm 6 j) ((h.toNat + k) % 24) ∧ ¬ Dm zm (h.toNat + k)) ∧ (Fg zm st bg j (h.toNat + k) + gF zm 10 (4 * j + k) ≤ gF zm 4 (gF zm 6 j).toNatClampNeg ∧ Ag zm st bg j (h.toNat + k) + gF zm 10 (4 * j + k) ≤ gI zm 11))) := by
    intro k h0 h1 h2
    rw [F_eq se tm pe hj hs (by omega), A_eq se tm pe hj hs (by omega), q18, q8, s3, q14, re.1 _ _ (by omega) (by omega), re.2.1 _ (by omega), ← nI_cl f6.1]
  unfold MBx MBg MBp
  rw [hT, s4, q15, q16, q17]
  constructor
  · rintro ⟨a, b, c, d, e, f⟩
    exact ⟨a, b, c, d, fun k hk' => (hk k (by omega) d hk').mp (e k hk'), f⟩
  · rintro ⟨a, b, c, d, e, f⟩
    exact ⟨a, b, c, d, fun k hk' => (hk k (by omega) d hk').mpr (e k hk'), f⟩
-- what a job draws from the grid
def dq (hr : Int) (nd : Nat → Int32) (b : Int) (t : Nat) : Int32 := if b ≤ (t : Int) ∧ (t : Int) < b + hr then nd ((t : Int) - b).toNat else 0
theorem v_X1_draw (b1 b2 b3 : Int32) (z : St) (P : St → Prop) (ht : TX z) (h0 : 0 ≤ b1.toInt ∧ b1.toInt ≤ 15) (h1 : 0 ≤ b2.toInt) (h2 : b2.toInt + (gF z 17 b1.toNatClampNeg).toInt ≤ 168) (hk : ∀ z2 : St, TX z2 → Same [] [10, 12] z z2 → JT z z2 → (∀ h t : Nat, h < 4 → t < 168 → gF z2 10 (168 * h + t) = gF z 10 (168 * h + t) + (if h = (gF z 14 b1.toNatClampNeg).toNatClampNeg then b3 * dq (gF z 17 b1.toNatClampNeg).toInt (fun k => gF z 18 (4 * b1.toNatClampNeg + k)) b2.toInt t else 0)) → (∀ t : Nat, t < 168 → gF z2 12 t = gF z 12 t + b3 * dq (gF z 17 b1.toNatClampNeg).toInt (fun k => gF z 18 (4 * b1.toNatClampNeg + k)) b2.toInt t) → P z2) : wp_X1_draw b1 b2 b3 z P := by
  have hv : vp_in b1 16 := vin rfl h0.1 (by omega)
  have c1 := clampN h0.1
  have f17 : 0 ≤ (gF z 17 b1.toNatClampNeg).toInt ∧ (gF z 17 b1.toNatClampNeg).toInt ≤ 4 := ht.2 17 _
  have f14 : 0 ≤ (gF z 14 b1.toNatClampNeg).toInt ∧ (gF z 14 b1.toNatClampNeg).toInt ≤ 3 := ht.2 14 _
  have c14 := clampN f14.1
  have m4 : (b1 * (4 : Int32)).toInt = b1.toInt * 4 := a_mul rfl (show (4 : Int32).toInt = 4 from rfl) (by omega) (by omega)
  have mul0 : ∀ x : Int32, x * 0 = 0 := fun x => Int32.mul_zero
  unfold wp_X1_draw
  intro K2 hK2
  have LL : ∀ (n : Nat) (v1 : Int32) (z3 : St), TX z3 → Same [] [10, 12] z z3 → JT z z3 → 0 ≤ v1.toInt → v1.toInt ≤ (gF z 17 b1.toNatClampNeg).toInt → (∀ h t : Nat, h < 4 → t < 168 → gF z3 10 (168 * h + t) = gF z 10 (168 * h + t) + (if h = (gF z 14 b1.toNatClampNeg).toNatClampNeg then b3 * dq v1.toInt (fun k => gF z 18 (4 * b1.toNatClampNeg + k)) b2.toInt t else 0)) → (∀ t : Nat, t < 168 → gF z3 12 t = gF z 12 t + b3 * dq v1.toInt (fun k => gF z 18 (4 * b1.toNatClampNeg + k)) b2.toInt t) → (4 - v1.toInt).toNat < n → K2 v1 z3 := by
    intro n
    induction n with
    | zero => intro v1 z3 _ _ _ _ _ _ _ q; omega
    | succ n ih =>
      intro v1 z3 t3 s3 j3 g0 g1 ha hb gm
      have cv := clampN g0
      have r17 : gF z3 17 = gF z 17 := s3.2 17 (by decide)
      have r14 : gF z3 14 = gF z 14 := s3.2 14 (by decide)
      have r18 : gF z3 18 = gF z 18 := s3.2 18 (by decide)
      refine hK2 v1 z3 ⟨hv, fun c => ?_, fun c => ⟨hv, ?_⟩⟩
      · rw [r17] at c
        have c' := i_le rfl rfl c
        have ev : v1.toInt = (gF z 17 b1.toNatClampNeg).toInt := by omega
        rw [ev] at ha hb
        exact hk z3 t3 s3 j3 ha hb
      · rw [r17] at c
        have c' := i_nle rfl rfl c
        have i4 : (b1 * (4 : Int32) + v1).toInt = b1.toInt * 4 + v1.toInt := a_add m4 rfl (by omega) (by omega)
        have c4 := clampN (x := b1 * (4 : Int32) + v1) (by omega)
        have e4 : (b1 * (4 : Int32) + v1).toNatClampNeg = 4 * b1.toNatClampNeg + v1.toNatClampNeg := by omega
        refine ⟨vin i4 (by omega) (by omega), ?_⟩
        rw [r14, r18, e4]
        have ih1 : (b2 + v1).toInt = b2.toInt + v1.toInt := a_add rfl rfl (by omega) (by omega)
        have ch := clampN (x := b2 + v1) (by omega)
        have m168 : (gF z 14 b1.toNatClampNeg * (168 : Int32)).toInt = (gF z 14 b1.toNatClampNeg).toInt * 168 := a_mul rfl (show (168 : Int32).toInt = 168 from rfl) (by omega) (by omega)
        have ib : (gF z 14 b1.toNatClampNeg * (168 : Int32) + (b2 + v1)).toInt = (gF z 14 b1.toNatClampNeg).toInt * 168 + (b2.toInt + v1.toInt) := a_add m168 ih1 (by omega) (by omega)
        have cb := clampN (x := gF z 14 b1.toNatClampNeg * (168 : Int32) + (b2 + v1)) (by omega)
        unfold wp_X0_draw
        refine ⟨vin ib (by omega) (by omega), vin ib (by omega) (by omega), ?_⟩
        intro za ea
        refine ⟨vin ih1 (by omega) (by omega), vin ih1 (by omega) (by omega), ?_⟩
        intro zb eb x7 e7
        have i7 : x7.toInt = v1.toInt + 1 := by rw [e7]; exact a_add rfl rfl (by omega) (by omega)
        have ta : TX za := by rw [ea]; exact Ty_wR t3 trivial
        have dstep : ∀ t : Nat, dq x7.toInt (fun k => gF z 18 (4 * b1.toNatClampNeg + k)) b2.toInt t = dq v1.toInt (fun k => gF z 18 (4 * b1.toNatClampNeg + k)) b2.toInt t + (if t = (b2 + v1).toNatClampNeg then gF z 18 (4 * b1.toNatClampNeg + v1.toNatClampNeg) else 0) := by
          intro t
          unfold dq
          by_cases e : t = (b2 + v1).toNatClampNeg
          · rw [if_pos e, if_pos (by omega), if_neg (by omega), Int32.zero_add, show ((t : Int) - b2.toInt).toNat = v1.toNatClampNeg by omega]
          · rw [if_neg e, Int32.add_zero]
            by_cases e2 : b2.toInt ≤ (t : Int) ∧ (t : Int) < b2.toInt + v1.toInt
            · rw [if_pos e2, if_pos (by omega)]
            · rw [if_neg e2, if_neg (by omega)]
        refine ih x7 zb (by rw [eb]; exact Ty_wR ta trivial) ((s3.r (by decide) ea).r (by decide) eb) (by rw [eb, ea]; exact j3) (by omega) (by omega) (fun h t hh htt => ?_) (fun t htt => ?_) (by omega)
        · rw [eb]
          show gF za 10 (168 * h + t) = _
          rw [ea, gF_upd, dstep t]
          by_cases e : 168 * h + t = (gF z 14 b1.toNatClampNeg * (168 : Int32) + (b2 + v1)).toNatClampNeg
          · have e1 : h = (gF z 14 b1.toNatClampNeg).toNatClampNeg := by omega
            have e2 : t = (b2 + v1).toNatClampNeg := by omega
            rw [if_pos e, ← e, ha h t hh htt, if_pos e1, if_pos e1, if_pos e2, Int32.mul_add, Int32.add_assoc]
          · rw [if_neg e, ha h t hh htt]
            by_cases e1 : h = (gF z 14 b1.toNatClampNeg).toNatClampNeg
            · rw [if_pos e1, if_pos e1, if_neg (by omega), Int32.add_zero]
            · rw [if_neg e1, if_neg e1]
        · have ga : gF za 12 = gF z3 12 := by rw [ea]; rfl
          rw [eb, gF_upd, ga, dstep t]
          by_cases e : t = (b2 + v1).toNatClampNeg
          · rw [if_pos e, if_pos e, ← e, hb t htt, Int32.mul_add, Int32.add_assoc]
          · rw [if_neg e, if_neg e, hb t htt, Int32.add_zero]
  have d0 : ∀ t : Nat, dq (0 : Int32).toInt (fun k => gF z 18 (4 * b1.toNatClampNeg + k)) b2.toInt t = 0 := by
    intro t
    unfold dq
    rw [if_neg (by have : (0 : Int32).toInt = 0 := rfl; omega)]
  refine LL _ 0 z ht Same.rf JT_rf (by decide) f17.1 (fun h t _ _ => ?_) (fun t _ => ?_) (Nat.lt_succ_self _)
  · rw [d0, mul0]
    by_cases e : h = (gF z 14 b1.toNatClampNeg).toNatClampNeg
    · rw [if_pos e, Int32.add_zero]
    · rw [if_neg e, Int32.add_zero]
  · rw [d0, mul0, Int32.add_zero]
theorem drV_dq {r9 r10 st bg : Nat → Int32} {j t : Nat} (hj : j < 16) (ht : t < 168) (hs : ¬ st j = 0) (hb : 0 ≤ (bg j).toInt ∧ (bg j).toInt ≤ 167) (h9 : 0 ≤ (r9 j).toInt ∧ (r9 j).toInt ≤ 4) : drV r9 r10 st bg (nI j) (nI t) = dq (r9 j).toInt (fun k => r10 (4 * j + k)) (bg j).toInt t := by
  have it : (nI t).toInt = (t : Int) := nI_toInt (by omega)
  have ij : (nI j).toInt = (j : Int) := nI_toInt (by omega)
  have is : (nI t - bg j).toInt = (t : Int) - (bg j).toInt := a_sub it rfl (by omega) (by omega)
  unfold drV dq
  rw [nI_clamp (by omega), if_neg hs, is]
  by_cases e : (bg j).toInt ≤ (t : Int) ∧ (t : Int) < (bg j).toInt + (r9 j).toInt
  · rw [if_pos e, if_pos (by omega)]
    have ia : ((4 : Int32) * nI j + (nI t - bg j)).toInt = 4 * (j : Int) + ((t : Int) - (bg j).toInt) := a_add (a_mul (show (4 : Int32).toInt = 4 from rfl) ij (by omega) (by omega)) is (by omega) (by omega)
    have ca := clampN (x := (4 : Int32) * nI j + (nI t - bg j)) (by omega)
    rw [show ((4 : Int32) * nI j + (nI t - bg j)).toNatClampNeg = 4 * j + ((t : Int) - (bg j).toInt).toNat by omega]
  · rw [if_neg e, if_neg (by omega)]
theorem drV_0 {r9 r10 st bg : Nat → Int32} {j : Nat} {t : Int32} (hj : j < 16) (hs : st j = 0) : drV r9 r10 st bg (nI j) t = 0 := by
  unfold drV
  rw [nI_clamp (by omega), if_pos hs]
theorem drV_co {r9 r10 st bg st' bg' : Nat → Int32} {j : Nat} {t : Int32} (hj : j < 16) (hs : st' j = st j) (hb : ¬ st j = 0 → bg' j = bg j) : drV r9 r10 st' bg' (nI j) t = drV r9 r10 st bg (nI j) t := by
  unfold drV
  rw [nI_clamp (by omega), hs]
  by_cases e : st j = 0
  · rw [if_pos e, if_pos e]
  · rw [if_neg e, if_neg e, hb e]
/-- the class's own plan is what its rows draw -/
def PX (z : St) : Prop := PE z (gI z 1308).toNatClampNeg (gF z 14) (gF z 17) (gF z 18) (gF z 19) (gF z 20)
/-- a job's part of the plan changes -/
theorem PE_mv {z z2 : St} {n j : Nat} {r6 r9 r10 st bg st' bg' : Nat → Int32} {d : Nat → Int32} (h : PE z n r6 r9 r10 st bg) (hn : n ≤ 16) (hj : j < n) (h6 : ∀ i, 0 ≤ (r6 i).toInt ∧ (r6 i).toInt ≤ 3) (hst : ∀ i, i ≠ j → st' i = st i) (hbg : ∀ i, i ≠ j → bg' i = bg i) (hd : ∀ t, t < 168 → drV r9 r10 st' bg' (nI j) (nI t) = drV r9 r10 st bg (nI j) (nI t) + d t) (ha : ∀ h t : Nat, h < 4 → t < 168 → gF z2 10 (168 * h + t) = gF z 10 (168 * h + t) + (if h = (r6 j).toNatClampNeg then d t else 0)) (hb : ∀ t : Nat, t < 168 → gF z2 12 t = gF z 12 t + d t) : PE z2 n r6 r9 r10 st' bg' := by
  have h6j := h6 j
  have c6 := clampN h6j.1
  refine ⟨fun hh t h1 h2 => ?_, fun t h2 => ?_⟩
  · rw [ha hh t h1 h2, h.1 hh t h1 h2]
    by_cases e : hh = (r6 j).toNatClampNeg
    · have e2 : r6 j = nI hh := by rw [e]; exact nI_cl h6j.1
      rw [if_pos e]
      refine (sm_upd (k := j) hj (fun i hin hi => ?_) ?_).symm
      · unfold tH
        rw [drV_co (by omega) (hst i hi) (fun _ => hbg i hi)]
      · unfold tH
        rw [if_pos e2, if_pos e2, hd t h2]
    · have e2 : ¬ r6 j = nI hh := fun q => e (by rw [q, nI_clamp (by omega)])
      rw [if_neg e, Int32.add_zero]
      refine sm_congr (fun i hi => ?_)
      unfold tH
      by_cases e3 : i = j
      · rw [e3, if_neg e2, if_neg e2]
      · rw [drV_co (by omega) (hst i e3) (fun _ => hbg i e3)]
  · rw [hb t h2, h.2 t h2]
    exact (sm_upd (k := j) hj (fun i hin hi => drV_co (by omega) (hst i hi) (fun _ => hbg i hi)) (hd t h2)).symm
theorem one_mul' (x : Int32) : (1 : Int32) * x = x := Int32.one_mul x
theorem gF_same19 {z : St} {k i : Nat} {v : Int32} {m : Nat} (h : m ≠ k) : gF (wR z k (upd (gF z k) i v)) m = gF z m := by
  show va_up z.2.1 k _ m = _
  unfold va_up
  rw [if_neg h]; rfl
/-- a job that is open is planned -/
theorem v_X1_plan (b1 b2 : Int32) (z : St) (P : St → Prop) (ht : TX z) (hrx : RX z) (hpx : PX z) (h0 : 0 ≤ b1.toInt ∧ b1.toInt ≤ 15) (h1 : 0 ≤ b2.toInt ∧ b2.toInt ≤ 167) (hn : b1.toInt < (gI z 1308).toInt) (h2 : b2.toInt + (gF z 17 b1.toNatClampNeg).toInt ≤ 168) (hs : gF z 19 b1.toNatClampNeg = 0) (hk : ∀ z2 : St, TX z2 → RX z2 → PX z2 → Same [] [10, 12, 19, 20] z z2 → gF z2 19 = upd (gF z 19) b1.toNatClampNeg 1 → gF z2 20 = upd (gF z 20) b1.toNatClampNeg b2 → P z2) : wp_X1_plan b1 b2 z P := by
  have hv : vp_in b1 16 := vin rfl h0.1 (by omega)
  have c1 := clampN h0.1
  have fn : 0 ≤ (gI z 1308).toInt ∧ (gI z 1308).toInt ≤ 16 := ht.1 1308
  have cn := clampN fn.1
  have f17 : 0 ≤ (gF z 17 b1.toNatClampNeg).toInt ∧ (gF z 17 b1.toNatClampNeg).toInt ≤ 4 := ht.2 17 _
  unfold wp_X1_plan
  refine ⟨hv, ?_⟩
  intro z1 e1
  refine ⟨hv, ?_⟩
  intro z2 e2
  have t1 : TX z1 := by rw [e1]; exact Ty_wR ht (show 0 ≤ (1 : Int32).toInt ∧ (1 : Int32).toInt ≤ 2 by decide)
  have t2 : TX z2 := by rw [e2]; exact Ty_wR t1 (show -1 ≤ b2.toInt ∧ b2.toInt ≤ 167 by omega)
  have s2 : Same [] [10, 12, 19, 20] z z2 := (Same.rf.r (by decide) e1).r (by decide) e2
  have x2 : RX z2 := by rw [e2, e1]; exact RX_plan hrx (by omega) h1.1 h2
  have a19 : gF z2 19 = upd (gF z 19) b1.toNatClampNeg 1 := by rw [e2]; show gF z1 19 = _; rw [e1, gF_wR]
  have a20 : gF z2 20 = upd (gF z 20) b1.toNatClampNeg b2 := by rw [e2, gF_wR, e1]; rfl
  have a17 : gF z2 17 = gF z 17 := s2.2 17 (by decide)
  have a14 : gF z2 14 = gF z 14 := s2.2 14 (by decide)
  have a18 : gF z2 18 = gF z 18 := s2.2 18 (by decide)
  have a10 : gF z2 10 = gF z 10 := by rw [e2, e1]; rfl
  have a12 : gF z2 12 = gF z 12 := by rw [e2, e1]; rfl
  refine v_X1_draw _ _ _ _ _ t2 h0 h1.1 (by rw [a17]; exact h2) (fun z3 t3 s3 _ ha hb => ?_)
  rw [a10, a14, a17, a18] at ha
  rw [a12, a17, a18] at hb
  have s3' : Same [] [10, 12, 19, 20] z z3 := s2.tr s3 (by decide) (by decide)
  have q19 : gF z3 19 = upd (gF z 19) b1.toNatClampNeg 1 := (s3.2 19 (by decide)).trans a19
  have q20 : gF z3 20 = upd (gF z 20) b1.toNatClampNeg b2 := (s3.2 20 (by decide)).trans a20
  refine hk z3 t3 (RX_same x2 s3 (by decide) (by decide) (by decide) (by decide) (by decide) (by decide)) ?_ s3' q19 q20
  unfold PX
  rw [s3'.1 1308 (by decide), s3'.2 14 (by decide), s3'.2 17 (by decide), s3'.2 18 (by decide), q19, q20]
  refine PE_mv (j := b1.toNatClampNeg) (d := fun t => (1 : Int32) * dq (gF z 17 b1.toNatClampNeg).toInt (fun k => gF z 18 (4 * b1.toNatClampNeg + k)) b2.toInt t) hpx (by omega) (by omega) (fun i => ht.2 14 i) (fun i hi => if_neg hi) (fun i hi => if_neg hi) (fun t htt => ?_) ha hb
  have u19 : upd (gF z 19) b1.toNatClampNeg (1 : Int32) b1.toNatClampNeg = 1 := if_pos rfl
  have u20 : upd (gF z 20) b1.toNatClampNeg b2 b1.toNatClampNeg = b2 := if_pos rfl
  rw [drV_0 (by omega) hs, drV_dq (by omega) htt (by rw [u19]; decide) (by rw [u20]; exact h1) f17, u20, one_mul', Int32.zero_add]
theorem v_X1_reopen (b1 : Int32) (z : St) (P : St → Prop) (ht : TX z) (hrx : RX z) (hpx : PX z) (h0 : 0 ≤ b1.toInt ∧ b1.toInt ≤ 15) (hn : b1.toInt < (gI z 1308).toInt) (hk1 : ¬ gF z 19 b1.toNatClampNeg = 1 → P z) (hk : gF z 19 b1.toNatClampNeg = 1 → ∀ z2 : St, TX z2 → RX z2 → PX z2 → Same [] [10, 12, 19, 20] z z2 → gF z2 19 = upd (gF z 19) b1.toNatClampNeg 0 → gF z2 20 = upd (gF z 20) b1.toNatClampNeg (-1) → P z2) : wp_X1_reopen b1 z P := by
  have hv : vp_in b1 16 := vin rfl h0.1 (by omega)
  have c1 := clampN h0.1
  have fn : 0 ≤ (gI z 1308).toInt ∧ (gI z 1308).toInt ≤ 16 := ht.1 1308
  have cn := clampN fn.1
  have f17 : 0 ≤ (gF z 17 b1.toNatClampNeg).toInt ∧ (gF z 17 b1.toNatClampNeg).toInt ≤ 4 := ht.2 17 _
  have f20 : -1 ≤ (gF z 20 b1.toNatClampNeg).toInt ∧ (gF z 20 b1.toNatClampNeg).toInt ≤ 167 := ht.2 20 _
  unfold wp_X1_reopen
  refine ⟨hv, hk1, fun c => ⟨hv, ?_⟩⟩
  have rb : 0 ≤ (gF z 20 b1.toNatClampNeg).toInt ∧ (gF z 20 b1.toNatClampNeg).toInt + (gF z 17 b1.toNatClampNeg).toInt ≤ 168 := by
    rcases hrx.1 b1.toNatClampNeg with q | q
    · rw [c] at q; exact absurd q (by decide)
    · exact q
  refine v_X1_draw _ _ _ _ _ ht h0 rb.1 rb.2 (fun z2 t2 s2 _ ha hb => ⟨hv, ?_⟩)
  intro z4 e4
  refine ⟨hv, ?_⟩
  intro z5 e5
  have x2 : RX z2 := RX_same hrx s2 (by decide) (by decide) (by decide) (by decide) (by decide) (by decide)
  have t4 : TX z4 := by rw [e4]; exact Ty_wR t2 (show 0 ≤ (0 : Int32).toInt ∧ (0 : Int32).toInt ≤ 2 by decide)
  have t5 : TX z5 := by rw [e5]; exact Ty_wR t4 (show -1 ≤ (-1 : Int32).toInt ∧ (-1 : Int32).toInt ≤ 167 by decide)
  have s5 : Same [] [10, 12, 19, 20] z z5 := ((Same.tr (z1 := z) Same.rf s2 (by decide) (by decide)).r (by decide) e4).r (by decide) e5
  have a19 : gF z5 19 = upd (gF z 19) b1.toNatClampNeg 0 := by rw [e5]; show gF z4 19 = _; rw [e4, gF_wR, s2.2 19 (by decide)]
  have a20 : gF z5 20 = upd (gF z 20) b1.toNatClampNeg (-1) := by rw [e5, gF_wR, e4]; show upd (gF z2 20) _ _ = _; rw [s2.2 20 (by decide)]
  have a10 : gF z5 10 = gF z2 10 := by rw [e5, e4]; rfl
  have a12 : gF z5 12 = gF z2 12 := by rw [e5, e4]; rfl
  refine hk c z5 t5 (by rw [e5, e4]; exact RX_open x2) ?_ s5 a19 a20
  unfold PX
  rw [s5.1 1308 (by decide), s5.2 14 (by decide), s5.2 17 (by decide), s5.2 18 (by decide), a19, a20]
  refine PE_mv (j := b1.toNatClampNeg) (d := fun t => (-1 : Int32) * dq (gF z 17 b1.toNatClampNeg).toInt (fun k => gF z 18 (4 * b1.toNatClampNeg + k)) (gF z 20 b1.toNatClampNeg).toInt t) hpx (by omega) (by omega) (fun i => ht.2 14 i) (fun i hi => if_neg hi) (fun i hi => if_neg hi) (fun t htt => ?_) (by rw [a10]; exact ha) (by rw [a12]; exact hb)
  have u19 : upd (gF z 19) b1.toNatClampNeg (0 : Int32) b1.toNatClampNeg = 0 := if_pos rfl
  rw [drV_0 (by omega) u19, drV_dq (by omega) htt (by rw [c]; decide) (by omega) f17, Int32.neg_mul, Int32.one_mul, Int32.add_right_neg]
