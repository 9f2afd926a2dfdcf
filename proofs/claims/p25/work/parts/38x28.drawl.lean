-- a job's draw: the longs stay
theorem v_X1_drawL (b1 b2 b3 : Int32) (z : St) (P : St → Prop) (ht : TX z) (h0 : 0 ≤ b1.toInt ∧ b1.toInt ≤ 15) (h1 : 0 ≤ b2.toInt) (h2 : b2.toInt + (gF z 17 b1.toNatClampNeg).toInt ≤ 168) (hk : ∀ z2 : St, TX z2 → Same [] [10, 12] z z2 → z2.2.2 = z.2.2 → (∀ h t : Nat, h < 4 → t < 168 → gF z2 10 (168 * h + t) = gF z 10 (168 * h + t) + (if h = (gF z 14 b1.toNatClampNeg).toNatClampNeg then b3 * dq (gF z 17 b1.toNatClampNeg).toInt (fun k => gF z 18 (4 * b1.toNatClampNeg + k)) b2.toInt t else 0)) → (∀ t : Nat, t < 168 → gF z2 12 t = gF z 12 t + b3 * dq (gF z 17 b1.toNatClampNeg).toInt (fun k => gF z 18 (4 * b1.toNatClampNeg + k)) b2.toInt t) → P z2) : wp_X1_draw b1 b2 b3 z P := by
  have hv : vp_in b1 16 := vin rfl h0.1 (by omega)
  have c1 := clampN h0.1
  have f17 : 0 ≤ (gF z 17 b1.toNatClampNeg).toInt ∧ (gF z 17 b1.toNatClampNeg).toInt ≤ 4 := ht.2 17 _
  have f14 : 0 ≤ (gF z 14 b1.toNatClampNeg).toInt ∧ (gF z 14 b1.toNatClampNeg).toInt ≤ 3 := ht.2 14 _
  have c14 := clampN f14.1
  have m4 : (b1 * (4 : Int32)).toInt = b1.toInt * 4 := a_mul rfl (show (4 : Int32).toInt = 4 from rfl) (by omega) (by omega)
  have mul0 : ∀ x : Int32, x * 0 = 0 := fun x => Int32.mul_zero
  unfold wp_X1_draw
  intro K2 hK2
  have LL : ∀ (n : Nat) (v1 : Int32) (z3 : St), TX z3 → Same [] [10, 12] z z3 → z3.2.2 = z.2.2 → 0 ≤ v1.toInt → v1.toInt ≤ (gF z 17 b1.toNatClampNeg).toInt → (∀ h t : Nat, h < 4 → t < 168 → gF z3 10 (168 * h + t) = gF z 10 (168 * h + t) + (if h = (gF z 14 b1.toNatClampNeg).toNatClampNeg then b3 * dq v1.toInt (fun k => gF z 18 (4 * b1.toNatClampNeg + k)) b2.toInt t else 0)) → (∀ t : Nat, t < 168 → gF z3 12 t = gF z 12 t + b3 * dq v1.toInt (fun k => gF z 18 (4 * b1.toNatClampNeg + k)) b2.toInt t) → (4 - v1.toInt).toNat < n → K2 v1 z3 := by
    intro n
    induction n with
    | zero => intro v1 z3 _ _ _ _ _ _ _ q; omega
    | succ n ih =>
      intro v1 z3 t3 s3 j3 g0 g1 ha hb gm
      have cv := clampN g0
      have r17 : gF z3 17 = gF z 17 := s3.2 17 (by decide)
      have r14 : gF z3 14 = gF z 14 := s3.2 14 (by decide)
      have r18 : gF z3 18 = gF z 18 := s3.2 18 (by decide)
      refine hK2 v1 z3 ⟨hv, fun c => ?_, fun c => ⟨hv, ?_⟩⟩
      · rw [r17] at c
        have c' := i_le rfl rfl c
        have ev : v1.toInt = (gF z 17 b1.toNatClampNeg).toInt := by omega
        rw [ev] at ha hb
        exact hk z3 t3 s3 j3 ha hb
      · rw [r17] at c
        have c' := i_nle rfl rfl c
        have i4 : (b1 * (4 : Int32) + v1).toInt = b1.toInt * 4 + v1.toInt := a_add m4 rfl (by omega) (by omega)
        have c4 := clampN (x := b1 * (4 : Int32) + v1) (by omega)
        have e4 : (b1 * (4 : Int32) + v1).toNatClampNeg = 4 * b1.toNatClampNeg + v1.toNatClampNeg := by omega
        refine ⟨vin i4 (by omega) (by omega), ?_⟩
        rw [r14, r18, e4]
        have ih1 : (b2 + v1).toInt = b2.toInt + v1.toInt := a_add rfl rfl (by omega) (by omega)
        have ch := clampN (x := b2 + v1) (by omega)
        have m168 : (gF z 14 b1.toNatClampNeg * (168 : Int32)).toInt = (gF z 14 b1.toNatClampNeg).toInt * 168 := a_mul rfl (show (168 : Int32).toInt = 168 from rfl) (by omega) (by omega)
        have ib : (gF z 14 b1.toNatClampNeg * (168 : Int32) + (b2 + v1)).toInt = (gF z 14 b1.toNatClampNeg).toInt * 168 + (b2.toInt + v1.toInt) := a_add m168 ih1 (by omega) (by omega)
        have cb := clampN (x := gF z 14 b1.toNatClampNeg * (168 : Int32) + (b2 + v1)) (by omega)
        unfold wp_X0_draw
        refine ⟨vin ib (by omega) (by omega), vin ib (by omega) (by omega), ?_⟩
        intro za ea
        refine ⟨vin ih1 (by omega) (by omega), vin ih1 (by omega) (by omega), ?_⟩
        intro zb eb x7 e7
        have i7 : x7.toInt = v1.toInt + 1 := by rw [e7]; exact a_add rfl rfl (by omega) (by omega)
        have ta : TX za := by rw [ea]; exact Ty_wR t3 trivial
        have dstep : ∀ t : Nat, dq x7.toInt (fun k => gF z 18 (4 * b1.toNatClampNeg + k)) b2.toInt t = dq v1.toInt (fun k => gF z 18 (4 * b1.toNatClampNeg + k)) b2.toInt t + (if t = (b2 + v1).toNatClampNeg then gF z 18 (4 * b1.toNatClampNeg + v1.toNatClampNeg) else 0) := by
          intro t
          unfold dq
          by_cases e : t = (b2 + v1).toNatClampNeg
          · rw [if_pos e, if_pos (by omega), if_neg (by omega), Int32.zero_add, show ((t : Int) - b2.toInt).toNat = v1.toNatClampNeg by omega]
          · rw [if_neg e, Int32.add_zero]
            by_cases e2 : b2.toInt ≤ (t : Int) ∧ (t : Int) < b2.toInt + v1.toInt
            · rw [if_pos e2, if_pos (by omega)]
            · rw [if_neg e2, if_neg (by omega)]
        refine ih x7 zb (by rw [eb]; exact Ty_wR ta trivial) ((s3.r (by decide) ea).r (by decide) eb) (by rw [eb, ea]; exact j3) (by omega) (by omega) (fun h t hh htt => ?_) (fun t htt => ?_) (by omega)
        · rw [eb]
          show gF za 10 (168 * h + t) = _
          rw [ea, gF_upd, dstep t]
          by_cases e : 168 * h + t = (gF z 14 b1.toNatClampNeg * (168 : Int32) + (b2 + v1)).toNatClampNeg
          · have e1 : h = (gF z 14 b1.toNatClampNeg).toNatClampNeg := by omega
            have e2 : t = (b2 + v1).toNatClampNeg := by omega
            rw [if_pos e, ← e, ha h t hh htt, if_pos e1, if_pos e1, if_pos e2, Int32.mul_add, Int32.add_assoc]
          · rw [if_neg e, ha h t hh htt]
            by_cases e1 : h = (gF z 14 b1.toNatClampNeg).toNatClampNeg
            · rw [if_pos e1, if_pos e1, if_neg (by omega), Int32.add_zero]
            · rw [if_neg e1, if_neg e1]
        · have ga : gF za 12 = gF z3 12 := by rw [ea]; rfl
          rw [eb, gF_upd, ga, dstep t]
          by_cases e : t = (b2 + v1).toNatClampNeg
          · rw [if_pos e, if_pos e, ← e, hb t htt, Int32.mul_add, Int32.add_assoc]
          · rw [if_neg e, if_neg e, hb t htt, Int32.add_zero]
  have d0 : ∀ t : Nat, dq (0 : Int32).toInt (fun k => gF z 18 (4 * b1.toNatClampNeg + k)) b2.toInt t = 0 := by
    intro t
    unfold dq
    rw [if_neg (by have : (0 : Int32).toInt = 0 := rfl; omega)]
  refine LL _ 0 z ht Same.rf rfl (by decide) f17.1 (fun h t _ _ => ?_) (fun t _ => ?_) (Nat.lt_succ_self _)
  · rw [d0, mul0]
    by_cases e : h = (gF z 14 b1.toNatClampNeg).toNatClampNeg
    · rw [if_pos e, Int32.add_zero]
    · rw [if_neg e, Int32.add_zero]
  · rw [d0, mul0, Int32.add_zero]
theorem v_X1_planL (b1 b2 : Int32) (z : St) (P : St → Prop) (ht : TX z) (hrx : RX z) (hpx : PX z) (h0 : 0 ≤ b1.toInt ∧ b1.toInt ≤ 15) (h1 : 0 ≤ b2.toInt ∧ b2.toInt ≤ 167) (hn : b1.toInt < (gI z 1308).toInt) (h2 : b2.toInt + (gF z 17 b1.toNatClampNeg).toInt ≤ 168) (hs : gF z 19 b1.toNatClampNeg = 0) (hk : ∀ z2 : St, TX z2 → RX z2 → PX z2 → Same [] [10, 12, 19, 20] z z2 → z2.2.2 = z.2.2 → gF z2 19 = upd (gF z 19) b1.toNatClampNeg 1 → gF z2 20 = upd (gF z 20) b1.toNatClampNeg b2 → P z2) : wp_X1_plan b1 b2 z P := by
  have hv : vp_in b1 16 := vin rfl h0.1 (by omega)
  have c1 := clampN h0.1
  have fn : 0 ≤ (gI z 1308).toInt ∧ (gI z 1308).toInt ≤ 16 := ht.1 1308
  have cn := clampN fn.1
  have f17 : 0 ≤ (gF z 17 b1.toNatClampNeg).toInt ∧ (gF z 17 b1.toNatClampNeg).toInt ≤ 4 := ht.2 17 _
  unfold wp_X1_plan
  refine ⟨hv, ?_⟩
  intro z1 e1
  refine ⟨hv, ?_⟩
  intro z2 e2
  have t1 : TX z1 := by rw [e1]; exact Ty_wR ht (show 0 ≤ (1 : Int32).toInt ∧ (1 : Int32).toInt ≤ 2 by decide)
  have t2 : TX z2 := by rw [e2]; exact Ty_wR t1 (show -1 ≤ b2.toInt ∧ b2.toInt ≤ 167 by omega)
  have s2 : Same [] [10, 12, 19, 20] z z2 := (Same.rf.r (by decide) e1).r (by decide) e2
  have x2 : RX z2 := by rw [e2, e1]; exact RX_plan hrx (by omega) h1.1 h2
  have a19 : gF z2 19 = upd (gF z 19) b1.toNatClampNeg 1 := by rw [e2]; show gF z1 19 = _; rw [e1, gF_wR]
  have a20 : gF z2 20 = upd (gF z 20) b1.toNatClampNeg b2 := by rw [e2, gF_wR, e1]; rfl
  have a17 : gF z2 17 = gF z 17 := s2.2 17 (by decide)
  have a14 : gF z2 14 = gF z 14 := s2.2 14 (by decide)
  have a18 : gF z2 18 = gF z 18 := s2.2 18 (by decide)
  have a10 : gF z2 10 = gF z 10 := by rw [e2, e1]; rfl
  have a12 : gF z2 12 = gF z 12 := by rw [e2, e1]; rfl
  refine v_X1_drawL _ _ _ _ _ t2 h0 h1.1 (by rw [a17]; exact h2) (fun z3 t3 s3 l3 ha hb => ?_)
  rw [a10, a14, a17, a18] at ha
  rw [a12, a17, a18] at hb
  have s3' : Same [] [10, 12, 19, 20] z z3 := s2.tr s3 (by decide) (by decide)
  have q19 : gF z3 19 = upd (gF z 19) b1.toNatClampNeg 1 := (s3.2 19 (by decide)).trans a19
  have q20 : gF z3 20 = upd (gF z 20) b1.toNatClampNeg b2 := (s3.2 20 (by decide)).trans a20
  refine hk z3 t3 (RX_same x2 s3 (by decide) (by decide) (by decide) (by decide) (by decide) (by decide)) ?_ s3' (by rw [l3, e2, e1]; rfl) q19 q20
  unfold PX
  rw [s3'.1 1308 (by decide), s3'.2 14 (by decide), s3'.2 17 (by decide), s3'.2 18 (by decide), q19, q20]
  refine PE_mv (j := b1.toNatClampNeg) (d := fun t => (1 : Int32) * dq (gF z 17 b1.toNatClampNeg).toInt (fun k => gF z 18 (4 * b1.toNatClampNeg + k)) b2.toInt t) hpx (by omega) (by omega) (fun i => ht.2 14 i) (fun i hi => if_neg hi) (fun i hi => if_neg hi) (fun t htt => ?_) ha hb
  have u19 : upd (gF z 19) b1.toNatClampNeg (1 : Int32) b1.toNatClampNeg = 1 := if_pos rfl
  have u20 : upd (gF z 20) b1.toNatClampNeg b2 b1.toNatClampNeg = b2 := if_pos rfl
  rw [drV_0 (by omega) hs, drV_dq (by omega) htt (by rw [u19]; decide) (by rw [u20]; exact h1) f17, u20, one_mul', Int32.zero_add]
