-- WHAT THE RULES SAY: the reference's rows
/-- row 24 with one rule more -/
def C4 (f g : Nat → Int32) (v : Nat) (c : RC) : Prop := (g (4 * v)).toInt = c.1 ∧ (g (4 * v + 1)).toInt = c.2.1 ∧ (g (4 * v + 2)).toInt = c.2.2.1 ∧ (g (4 * v + 3)).toInt = c.2.2.2 ∧ ∀ k, k < 4 * v → g k = f k
theorem C4_of {z z16 z18 z19 z20 z21 z22 : St} {v : Nat} {s3 r12 a b : Int32} {c : RC} (hv : (gI z 34).toInt = (v : Int)) (h20 : v < 20) (v16 : gI z16 34 = gI z 34) (v18 : gI z18 34 = gI z 34) (v19 : gI z19 34 = gI z 34) (v20 : gI z20 34 = gI z 34) (r24 : gF z16 24 = gF z 24) (e18 : z18 = wR z16 24 (upd (gF z16 24) ((4 : Int32) * gI z16 34).toNatClampNeg s3)) (e19 : z19 = wR z18 24 (upd (gF z18 24) ((4 : Int32) * gI z18 34 + (1 : Int32)).toNatClampNeg r12)) (e20 : z20 = wR z19 24 (upd (gF z19 24) ((4 : Int32) * gI z19 34 + (2 : Int32)).toNatClampNeg a)) (e21 : z21 = wR z20 24 (upd (gF z20 24) ((4 : Int32) * gI z20 34 + (3 : Int32)).toNatClampNeg b)) (e22 : z22 = wI z21 34 (gI z21 34 + (1 : Int32))) (h1 : s3.toInt = c.1) (h2 : r12.toInt = c.2.1) (h3 : a.toInt = c.2.2.1) (h4 : b.toInt = c.2.2.2) : C4 (gF z 24) (gF z22 24) v c := by
  have m : ((4 : Int32) * gI z 34).toInt = 4 * (v : Int) := a_mul rfl hv (by omega) (by omega)
  have m1 : ((4 : Int32) * gI z 34 + (1 : Int32)).toInt = 4 * (v : Int) + 1 := a_add m rfl (by omega) (by omega)
  have m2 : ((4 : Int32) * gI z 34 + (2 : Int32)).toInt = 4 * (v : Int) + 2 := a_add m rfl (by omega) (by omega)
  have m3 : ((4 : Int32) * gI z 34 + (3 : Int32)).toInt = 4 * (v : Int) + 3 := a_add m rfl (by omega) (by omega)
  have k0 := clampN (x := (4 : Int32) * gI z 34) (by omega)
  have k1 := clampN (x := (4 : Int32) * gI z 34 + (1 : Int32)) (by omega)
  have k2 := clampN (x := (4 : Int32) * gI z 34 + (2 : Int32)) (by omega)
  have k3 := clampN (x := (4 : Int32) * gI z 34 + (3 : Int32)) (by omega)
  rw [v16, show ((4 : Int32) * gI z 34).toNatClampNeg = 4 * v by omega] at e18
  rw [v18, show ((4 : Int32) * gI z 34 + (1 : Int32)).toNatClampNeg = 4 * v + 1 by omega] at e19
  rw [v19, show ((4 : Int32) * gI z 34 + (2 : Int32)).toNatClampNeg = 4 * v + 2 by omega] at e20
  rw [v20, show ((4 : Int32) * gI z 34 + (3 : Int32)).toNatClampNeg = 4 * v + 3 by omega] at e21
  have g : gF z22 24 = upd (upd (upd (upd (gF z 24) (4 * v) s3) (4 * v + 1) r12) (4 * v + 2) a) (4 * v + 3) b := by
    rw [e22]
    show gF z21 24 = _
    rw [e21, gF_wR, e20, gF_wR, e19, gF_wR, e18, gF_wR, r24]
  rw [g]
  refine ⟨?_, ?_, ?_, ?_, fun k hk => ?_⟩
  · rw [upd_ne (by omega), upd_ne (by omega), upd_ne (by omega), upd_at]; exact h1
  · rw [upd_ne (by omega), upd_ne (by omega), upd_at]; exact h2
  · rw [upd_ne (by omega), upd_at]; exact h3
  · rw [upd_at]; exact h4
  · rw [upd_ne (by omega), upd_ne (by omega), upd_ne (by omega), upd_ne (by omega)]
def OUW (tp : Nat → Int32) (L v : Nat) (ft : Int32) (o : Sum Nat ((Nat × Nat) × RC)) (z z2 : St) : Prop := match o with
  | Sum.inl f => ¬ gI z2 42 = 0 ∧ (gI z2 41).toInt = (f : Int)
  | Sum.inr x => gI z2 42 = 0 ∧ SM z2 tp L x.1 ∧ TK tp L x.1 ∧ (gI z2 34).toInt = (v : Int) + 1 ∧ gI z2 41 = ft ∧ C4 (gF z 24) (gF z2 24) v x.2
set_option maxHeartbeats 4000000 in
theorem w_X9_readRule (z : St) (P : St → Prop) (ht : TM z) (tp : Nat → Int32) (L v : Nat) (t : Nat × Nat) (hs : SM z tp L t) (tk : TK tp L t) (hb : gI z 42 = 0) (hv : (gI z 34).toInt = (v : Int)) (hk : ∀ z2 : St, TM z2 → Same QQI QQF z z2 → OUW tp L v (gI z 41) (pV tp L v t) z z2 → P z2) : wp_X9_readRule z P := by
  have f34 : 0 ≤ (gI z 34).toInt ∧ (gI z 34).toInt ≤ 20 := ht.1 34
  have k1 := TK_n1 tk
  have k2 := TK_n1 k1
  have k3 := TK_n1 k2
  have k4 := TK_n1 k3
  have k5 := TK_n1 k4
  have k6 := TK_n1 k5
  have w0 : (0 : Int32).toInt = 0 := rfl
  have wm : (-1 : Int32).toInt = -1 := rfl
  unfold wp_X9_readRule
  -- what the first word was
  have main : ∀ (K4 : Int32 → Prop), (∀ (s3 : Int32), (∀ K6 : Int32 → Prop, (∀ (s5 : Int32), (wp_X9_must s5 z (fun z7 => (∀ K10 : Int64 → Prop, (∀ (s9 : Int64), (wp_X9_number s9 z7 (fun r12 z11 => (∀ K15 : Int32 → Int32 → St → Prop, (∀ (v13 : Int32) (v14 : Int32) (z16 : St), ((((gI z16 42) = 0) → (vp_in (((4 : Int32)) * (gI z16 34)) 80 ∧ (∀ z18 : St, z18 = wR z16 24 (upd (gF z16 24) (((4 : Int32)) * (gI z16 34)).toNatClampNeg s3) → (vp_in ((((4 : Int32)) * (gI z18 34)) + ((1 : Int32))) 80 ∧ (∀ z19 : St, z19 = wR z18 24 (upd (gF z18 24) ((((4 : Int32)) * (gI z18 34)) + ((1 : Int32))).toNatClampNeg r12) → (vp_in ((((4 : Int32)) * (gI z19 34)) + ((2 : Int32))) 80 ∧ (∀ z20 : St, z20 = wR z19 24 (upd (gF z19 24) ((((4 : Int32)) * (gI z19 34)) + ((2 : Int32))).toNatClampNeg v13) → (vp_in ((((4 : Int32)) * (gI z20 34)) + ((3 : Int32))) 80 ∧ (∀ z21 : St, z21 = wR z20 24 (upd (gF z20 24) ((((4 : Int32)) * (gI z20 34)) + ((3 : Int32))).toNatClampNeg v14) → (∀ z22 : St, z22 = wI z21 34 ((gI z21 34) + ((1 : Int32))) → P z22)))))))))) ∧ (¬ ((gI z16 42) = 0) → P z16)) → K15 v13 v14 z16) → (((¬ s3 = 0) → (((¬ s3 = ((2 : Int32))) → K15 ((0 : Int32)) ((0 : Int32)) z11) ∧ (s3 = ((2 : Int32)) → (wp_X9_isWord ((98 : Int32)) ((101 : Int32)) ((102 : Int32)) ((111 : Int32)) ((114 : Int32)) ((101 : Int32)) z11 (fun r26 => (wp_X9_must r26 z11 (fun z27 => (∀ x29 : Int32, x29 = Int64.toInt32 (gJ z27 40) → (∀ K31 : Int32 → Prop, (∀ (s30 : Int32), (wp_X9_must s30 z27 (fun z32 => K15 x29 ((0 : Int32)) z32)) → K31 s30) → (∀ K34 : Prop, (K31 ((0 : Int32)) → K34) → (((¬ (gI z27 39) = ((2 : Int32))) → K34) ∧ ((gI z27 39) = ((2 : Int32)) → (((0 < (lg_cmp (gJ z27 40) ((15 : Int64)))) → K34) ∧ (¬ (0 < (lg_cmp (gJ z27 40) ((15 : Int64)))) → ((((lg_cmp (gJ z27 40) (Int32.toInt64 r12)) = 0) → K34) ∧ (¬ ((lg_cmp (gJ z27 40) (Int32.toInt64 r12)) = 0) → K31 ((1 : Int32)))))))))))))))))) ∧ (s3 = 0 → (wp_X9_isWord ((102 : Int32)) ((114 : Int32)) ((111 : Int32)) ((109 : Int32)) ((0 : Int32)) ((0 : Int32)) z11 (fun r39 => (wp_X9_must r39 z11 (fun z40 => (wp_X9_number ((23 : Int64)) z40 (fun r43 z42 => (wp_X9_isWord ((116 : Int32)) ((111 : Int32)) ((0 : Int32)) ((0 : Int32)) ((0 : Int32)) ((0 : Int32)) z42 (fun r45 => (wp_X9_must r45 z42 (fun z46 => (wp_X9_number ((23 : Int64)) z46 (fun r49 z48 => K15 r43 r49 z48))))))))))))))))) → K10 s9) → (((¬ s3 = 0) → (((¬ s3 = ((1 : Int32))) → K10 ((15 : Int64))) ∧ (s3 = ((1 : Int32)) → K10 ((10000 : Int64))))) ∧ (s3 = 0 → K10 ((3 : Int64))))))) → K6 s5) → (∀ K52 : Prop, (K6 ((0 : Int32)) → K52) → (((s3 < 0) → K52) ∧ (¬ (s3 < 0) → (((((20 : Int32)) ≤ (gI z 34)) → K52) ∧ (¬ (((20 : Int32)) ≤ (gI z 34)) → K6 ((1 : Int32)))))))) → K4 s3) → ∀ s3 : Int32, ((s3 = 0 ∧ isW 0 5 tp t) ∨ (s3 = 1 ∧ ¬ isW 0 5 tp t ∧ isW 1 4 tp t) ∨ (s3 = 2 ∧ ¬ isW 0 5 tp t ∧ ¬ isW 1 4 tp t ∧ isW 2 3 tp t) ∨ (s3 = -1 ∧ ¬ isW 0 5 tp t ∧ ¬ isW 1 4 tp t ∧ ¬ isW 2 3 tp t)) → K4 s3 := by
    intro K4 hK4 s3 hs3
    refine hK4 s3 ?_
    intro K6 hK6
    -- the first must fails: nothing more is read
    have h60 : pV tp L v t = Sum.inl t.1 → K6 0 := by
      intro hV
      refine hK6 0 (v_X9_must _ z _ ht tp L t hs tk hb (fun q => absurd rfl q) (fun _ z7 t7 s7 n7 f7 => ?_))
      have hfin : P z7 := hk z7 t7 (Same.tr (z1 := z) Same.rf s7 (by decide) (by decide)) (by rw [hV]; exact ⟨n7, f7⟩)
      intro K10 hK10
      have h10 : ∀ s9, K10 s9 := by
        intro s9
        refine hK10 s9 (mb_number _ _ _ n7 (fun r12 => ?_))
        intro K15 hK15
        have h15 : ∀ a b, K15 a b z7 := fun a b => hK15 a b z7 ⟨fun c => absurd c n7, fun _ => hfin⟩
        refine ⟨fun _ => ⟨fun _ => h15 _ _, fun _ => ?_⟩, fun _ => ?_⟩
        · refine s_X9_isWord _ _ _ _ _ _ _ _ t7 (fun r26 _ => mb_must _ _ _ n7 ?_)
          intro x29 _ K31 hK31
          have h31 : ∀ s, K31 s := fun s => hK31 s (mb_must _ _ _ n7 (h15 _ _))
          intro K34 hK34
          exact ⟨fun _ => hK34 (h31 _), fun _ => ⟨fun _ => hK34 (h31 _), fun _ => ⟨fun _ => hK34 (h31 _), fun _ => h31 _⟩⟩⟩
        · refine s_X9_isWord _ _ _ _ _ _ _ _ t7 (fun r39 _ => mb_must _ _ _ n7 (mb_number _ _ _ n7 (fun r43 => ?_)))
          exact s_X9_isWord _ _ _ _ _ _ _ _ t7 (fun r45 _ => mb_must _ _ _ n7 (mb_number _ _ _ n7 (fun r49 => h15 _ _)))
      exact ⟨fun _ => ⟨fun _ => h10 _, fun _ => h10 _⟩, fun _ => h10 _⟩
    intro K52 hK52
    refine ⟨fun c => hK52 (h60 ?_), fun c => ⟨fun c20 => hK52 (h60 ?_), fun c20 => ?_⟩⟩
    · -- no word
      have c' := i_lt rfl w0 c
      rcases hs3 with ⟨q, _⟩ | ⟨q, _⟩ | ⟨q, _⟩ | ⟨q, u0, u1, u2⟩
      · rw [q, w0] at c'; omega
      · rw [q, show (1 : Int32).toInt = 1 from rfl] at c'; omega
      · rw [q, show (2 : Int32).toInt = 2 from rfl] at c'; omega
      · unfold pV
        by_cases h20 : v < 20
        · rw [pIf_t h20]; unfold pR; rw [pIf_f u0, pIf_f u1, pIf_f u2]
        · rw [pIf_f h20]
    · have c20' := i_le (p := 20) rfl rfl c20
      unfold pV; rw [pIf_f (by omega)]
    · have c20' := i_nle (p := 20) rfl rfl c20
      have hV : pV tp L v t = pR tp L t := by unfold pV; rw [pIf_t (by omega)]
      rw [hV] at hk
      refine hK6 1 (v_X9_must _ z _ ht tp L t hs tk hb (fun _ z7 t7 s7 x7 => ?_) (fun q => absurd q (by decide)))
      have s7' : Same QQI [] z z7 := Same.tr (z1 := z) Same.rf s7 (by decide) (by decide)
      have b7 : gI z7 42 = 0 := b42 hb s7 (by decide)
      intro K10 hK10
      -- the end of a rule
      have good : ∀ (r12 : Int32) (K15 : Int32 → Int32 → St → Prop), (∀ (v13 : Int32) (v14 : Int32) (z16 : St), ((((gI z16 42) = 0) → (vp_in (((4 : Int32)) * (gI z16 34)) 80 ∧ (∀ z18 : St, z18 = wR z16 24 (upd (gF z16 24) (((4 : Int32)) * (gI z16 34)).toNatClampNeg s3) → (vp_in ((((4 : Int32)) * (gI z18 34)) + ((1 : Int32))) 80 ∧ (∀ z19 : St, z19 = wR z18 24 (upd (gF z18 24) ((((4 : Int32)) * (gI z18 34)) + ((1 : Int32))).toNatClampNeg r12) → (vp_in ((((4 : Int32)) * (gI z19 34)) + ((2 : Int32))) 80 ∧ (∀ z20 : St, z20 = wR z19 24 (upd (gF z19 24) ((((4 : Int32)) * (gI z19 34)) + ((2 : Int32))).toNatClampNeg v13) → (vp_in ((((4 : Int32)) * (gI z20 34)) + ((3 : Int32))) 80 ∧ (∀ z21 : St, z21 = wR z20 24 (upd (gF z20 24) ((((4 : Int32)) * (gI z20 34)) + ((3 : Int32))).toNatClampNeg v14) → (∀ z22 : St, z22 = wI z21 34 ((gI z21 34) + ((1 : Int32))) → P z22)))))))))) ∧ (¬ ((gI z16 42) = 0) → P z16)) → K15 v13 v14 z16) → (∀ (a b : Int32) (z16 : St) (x : (Nat × Nat) × RC), TM z16 → Same QQI [] z z16 → gI z16 42 = 0 → (gI z16 34 = gI z 34 ∧ gI z16 41 = gI z 41) → SM z16 tp L x.1 → TK tp L x.1 → pR tp L t = Sum.inr x → (s3.toInt = x.2.1 ∧ r12.toInt = x.2.2.1 ∧ a.toInt = x.2.2.2.1 ∧ b.toInt = x.2.2.2.2) → K15 a b z16) ∧ (∀ (a b : Int32) (z16 : St) (f : Nat), TM z16 → Same QQI [] z z16 → ¬ gI z16 42 = 0 → (gI z16 41).toInt = (f : Int) → pR tp L t = Sum.inl f → K15 a b z16) := by
        intro r12 K15 hK15
        refine ⟨fun a b z16 x t16 s16 n16 v16 x16 k16 hR hx => ?_, fun a b z16 f t16 s16 n16 f16 hR => ?_⟩
        · refine hK15 a b z16 ⟨fun _ => ?_, fun c => absurd n16 c⟩
          have m4 : ∀ zz : St, gI zz 34 = gI z 34 → ((4 : Int32) * gI zz 34).toInt = 4 * (v : Int) := fun zz h => by rw [h]; exact a_mul rfl hv (by omega) (by omega)
          refine ⟨vin (m4 _ v16.1) (by omega) (by omega), ?_⟩
          intro z18 e18
          have v18 : gI z18 34 = gI z 34 := by rw [e18]; exact v16.1
          refine ⟨vin (a_add (m4 _ v18) (show (1 : Int32).toInt = 1 from rfl) (by omega) (by omega)) (by omega) (by omega), ?_⟩
          intro z19 e19
          have v19 : gI z19 34 = gI z 34 := by rw [e19]; exact v18
          refine ⟨vin (a_add (m4 _ v19) (show (2 : Int32).toInt = 2 from rfl) (by omega) (by omega)) (by omega) (by omega), ?_⟩
          intro z20 e20
          have v20 : gI z20 34 = gI z 34 := by rw [e20]; exact v19
          refine ⟨vin (a_add (m4 _ v20) (show (3 : Int32).toInt = 3 from rfl) (by omega) (by omega)) (by omega) (by omega), ?_⟩
          intro z21 e21 z22 e22
          have v21 : gI z21 34 = gI z 34 := by rw [e21]; exact v20
          have i22 : (gI z21 34 + (1 : Int32)).toInt = (v : Int) + 1 := by rw [v21]; exact a_add hv rfl (by omega) (by omega)
          have t21 : TM z21 := by rw [e21]; exact Ty_wR (by rw [e20]; exact Ty_wR (by rw [e19]; exact Ty_wR (by rw [e18]; exact Ty_wR t16 trivial) trivial) trivial) trivial
          have d22 : Same [34] [24] z16 z22 := ((((Same.rf.r (by decide) e18).r (by decide) e19).r (by decide) e20).r (by decide) e21).i (by decide) e22
          refine hk z22 (by rw [e22]; exact Ty_wI t21 (show 0 ≤ (gI z21 34 + (1 : Int32)).toInt ∧ (gI z21 34 + (1 : Int32)).toInt ≤ 20 by omega)) ((Same.tr (z1 := z) Same.rf s16 (by decide) (by decide)).tr d22 (by decide) (by decide)) ?_
          rw [hR]
          refine ⟨b42 n16 d22 (by decide), SM_same x16 d22 (by rw [e22, e21, e20, e19, e18]; rfl) (by decide) (by decide) (by decide) (by decide) (by decide), k16, by rw [e22]; exact i22, (d22.1 41 (by decide)).trans v16.2, ?_⟩
          exact C4_of hv (by omega) v16.1 v18 v19 v20 (s16.2 24 (by decide)) e18 e19 e20 e21 e22 hx.1 hx.2.1 hx.2.2.1 hx.2.2.2
        · refine hK15 a b z16 ⟨fun c => absurd c n16, fun _ => hk z16 t16 (Same.tr (z1 := z) Same.rf s16 (by decide) (by decide)) ?_⟩
          rw [hR]; exact ⟨n16, f16⟩
      have v7 : gI z7 34 = gI z 34 ∧ gI z7 41 = gI z 41 := ⟨s7.1 34 (by decide), s7.1 41 (by decide)⟩
      rcases hs3 with ⟨q, u0⟩ | ⟨q, u0, u1⟩ | ⟨q, u0, u1, u2⟩ | ⟨q, u0, u1, u2⟩
      · -- quiet
        subst q
        have hR : pR tp L t = pQ tp L (n1 tp L t) := by unfold pR; rw [pIf_t u0]
        refine ⟨fun q => absurd rfl q, fun _ => hK10 _ ?_⟩
        refine v_X9_number _ z7 _ t7 tp L _ x7 k1 b7 3 rfl (by decide) (by decide) (fun ok1 r12 z11 hr12 t11 s11 x11 => ?_) (fun no1 r12 z11 t11 s11 n11 f11 => ?_)
        · have s11' : Same QQI [] z z11 := s7'.tr s11 (by decide) (by decide)
          have b11 : gI z11 42 = 0 := b42 b7 s11 (by decide)
          have v11 : gI z11 34 = gI z 34 ∧ gI z11 41 = gI z 41 := vv2 s11 v7 (by decide) (by decide)
          intro K15 hK15
          have G := good r12 K15 hK15
          refine ⟨fun q => absurd rfl q, fun _ => ?_⟩
          refine v_X9_isWord3 z11 _ tp L _ x11 k2 (fun w3 => ?_) (fun w3 => ?_)
          · refine v_X9_must _ z11 _ t11 tp L _ x11 k2 b11 (fun _ z40 t40 s40 x40 => ?_) (fun q => absurd q (by decide))
            have s40' : Same QQI [] z z40 := s11'.tr s40 (by decide) (by decide)
            have b40 : gI z40 42 = 0 := b42 b11 s40 (by decide)
            have v40 : gI z40 34 = gI z 34 ∧ gI z40 41 = gI z 41 := vv2 s40 v11 (by decide) (by decide)
            refine v_X9_number _ z40 _ t40 tp L _ x40 k3 b40 23 rfl (by decide) (by decide) (fun ok2 r43 z42 hr43 t42 s42 x42 => ?_) (fun no2 r43 z42 t42 s42 n42 f42 => ?_)
            · have s42' : Same QQI [] z z42 := s40'.tr s42 (by decide) (by decide)
              have b42' : gI z42 42 = 0 := b42 b40 s42 (by decide)
              have v42 : gI z42 34 = gI z 34 ∧ gI z42 41 = gI z 41 := vv2 s42 v40 (by decide) (by decide)
              refine v_X9_isWord4 z42 _ tp L _ x42 k4 (fun w4 => ?_) (fun w4 => ?_)
              · refine v_X9_must _ z42 _ t42 tp L _ x42 k4 b42' (fun _ z46 t46 s46 x46 => ?_) (fun q => absurd q (by decide))
                have s46' : Same QQI [] z z46 := s42'.tr s46 (by decide) (by decide)
                have b46 : gI z46 42 = 0 := b42 b42' s46 (by decide)
                have v46 : gI z46 34 = gI z 34 ∧ gI z46 41 = gI z 41 := vv2 s46 v42 (by decide) (by decide)
                refine v_X9_number _ z46 _ t46 tp L _ x46 k5 b46 23 rfl (by decide) (by decide) (fun ok3 r49 z48 hr49 t48 s48 x48 => ?_) (fun no3 r49 z48 t48 s48 n48 f48 => ?_)
                · refine G.1 _ _ z48 ((n1 tp L (n1 tp L (n1 tp L (n1 tp L (n1 tp L (n1 tp L t)))))), ((0 : Int), nC tp L (n1 tp L t), nC tp L (n1 tp L (n1 tp L (n1 tp L t))), nC tp L (n1 tp L (n1 tp L (n1 tp L (n1 tp L (n1 tp L t))))))) t48 (s46'.tr s48 (by decide) (by decide)) (b42 b46 s48 (by decide)) (vv2 s48 v46 (by decide) (by decide)) x48 k6 ?_ ⟨rfl, hr12, hr43, hr49⟩
                  rw [hR]; unfold pQ; rw [pIf_t ok1, pIf_t w3, pIf_t ok2, pIf_t w4, pIf_t ok3]
                · refine G.2 _ _ z48 _ t48 (s46'.tr s48 (by decide) (by decide)) n48 f48 ?_
                  rw [hR]; unfold pQ; rw [pIf_t ok1, pIf_t w3, pIf_t ok2, pIf_t w4, pIf_f no3]
              · refine v_X9_must _ z42 _ t42 tp L _ x42 k4 b42' (fun q => absurd rfl q) (fun _ z46 t46 s46 n46 f46 => ?_)
                refine mb_number _ _ _ n46 (fun r49 => G.2 _ _ z46 _ t46 (s42'.tr s46 (by decide) (by decide)) n46 f46 ?_)
                rw [hR]; unfold pQ; rw [pIf_t ok1, pIf_t w3, pIf_t ok2, pIf_f w4]
            · refine s_X9_isWord _ _ _ _ _ _ _ _ t42 (fun r45 _ => mb_must _ _ _ n42 (mb_number _ _ _ n42 (fun r49 => G.2 _ _ z42 _ t42 (s40'.tr s42 (by decide) (by decide)) n42 f42 ?_)))
              rw [hR]; unfold pQ; rw [pIf_t ok1, pIf_t w3, pIf_f no2]
          · refine v_X9_must _ z11 _ t11 tp L _ x11 k2 b11 (fun q => absurd rfl q) (fun _ z40 t40 s40 n40 f40 => ?_)
            refine mb_number _ _ _ n40 (fun r43 => s_X9_isWord _ _ _ _ _ _ _ _ t40 (fun r45 _ => mb_must _ _ _ n40 (mb_number _ _ _ n40 (fun r49 => G.2 _ _ z40 _ t40 (s11'.tr s40 (by decide) (by decide)) n40 f40 ?_))))
            rw [hR]; unfold pQ; rw [pIf_t ok1, pIf_f w3]
        · have s11' : Same QQI [] z z11 := s7'.tr s11 (by decide) (by decide)
          intro K15 hK15
          have G := good r12 K15 hK15
          refine ⟨fun q => absurd rfl q, fun _ => ?_⟩
          refine s_X9_isWord _ _ _ _ _ _ _ _ t11 (fun r39 _ => mb_must _ _ _ n11 (mb_number _ _ _ n11 (fun r43 => ?_)))
          refine s_X9_isWord _ _ _ _ _ _ _ _ t11 (fun r45 _ => mb_must _ _ _ n11 (mb_number _ _ _ n11 (fun r49 => G.2 _ _ z11 _ t11 s11' n11 f11 ?_)))
          rw [hR]; unfold pQ; rw [pIf_f no1]
      · -- dear
        subst q
        have hR : pR tp L t = pD tp L (n1 tp L t) := by unfold pR; rw [pIf_f u0, pIf_t u1]
        refine ⟨fun _ => ⟨fun q => absurd rfl q, fun _ => hK10 _ ?_⟩, fun q => absurd q (by decide)⟩
        refine v_X9_number _ z7 _ t7 tp L _ x7 k1 b7 10000 rfl (by decide) (by decide) (fun ok1 r12 z11 hr12 t11 s11 x11 => ?_) (fun no1 r12 z11 t11 s11 n11 f11 => ?_)
        · intro K15 hK15
          have G := good r12 K15 hK15
          refine ⟨fun _ => ⟨fun _ => ?_, fun q => absurd q (by decide)⟩, fun q => absurd q (by decide)⟩
          refine G.1 _ _ z11 ((n1 tp L (n1 tp L t)), ((1 : Int), nC tp L (n1 tp L t), (0 : Int), (0 : Int))) t11 (s7'.tr s11 (by decide) (by decide)) (b42 b7 s11 (by decide)) (vv2 s11 v7 (by decide) (by decide)) x11 k2 ?_ ⟨rfl, hr12, rfl, rfl⟩
          rw [hR]; unfold pD; rw [pIf_t ok1]
        · intro K15 hK15
          have G := good r12 K15 hK15
          refine ⟨fun _ => ⟨fun _ => ?_, fun q => absurd q (by decide)⟩, fun q => absurd q (by decide)⟩
          refine G.2 _ _ z11 _ t11 (s7'.tr s11 (by decide) (by decide)) n11 f11 ?_
          rw [hR]; unfold pD; rw [pIf_f no1]
      · -- before
        subst q
        have hR : pR tp L t = pB tp L (n1 tp L t) := by unfold pR; rw [pIf_f u0, pIf_f u1, pIf_t u2]
        refine ⟨fun _ => ⟨fun _ => hK10 _ ?_, fun q => absurd q (by decide)⟩, fun q => absurd q (by decide)⟩
        refine v_X9_number _ z7 _ t7 tp L _ x7 k1 b7 15 rfl (by decide) (by decide) (fun ok1 r12 z11 hr12 t11 s11 x11 => ?_) (fun no1 r12 z11 t11 s11 n11 f11 => ?_)
        · have s11' : Same QQI [] z z11 := s7'.tr s11 (by decide) (by decide)
          have b11 : gI z11 42 = 0 := b42 b7 s11 (by decide)
          have v11 : gI z11 34 = gI z 34 ∧ gI z11 41 = gI z 41 := vv2 s11 v7 (by decide) (by decide)
          intro K15 hK15
          have G := good r12 K15 hK15
          refine ⟨fun _ => ⟨fun q => absurd rfl q, fun _ => ?_⟩, fun q => absurd q (by decide)⟩
          refine v_X9_isWord5 z11 _ tp L _ x11 k2 (fun w5 => ?_) (fun w5 => ?_)
          · refine v_X9_must _ z11 _ t11 tp L _ x11 k2 b11 (fun _ z27 t27 s27 x27 => ?_) (fun q => absurd q (by decide))
            have s27' : Same QQI [] z z27 := s11'.tr s27 (by decide) (by decide)
            have b27 : gI z27 42 = 0 := b42 b11 s27 (by decide)
            have v27 : gI z27 34 = gI z 34 ∧ gI z27 41 = gI z 41 := vv2 s27 v11 (by decide) (by decide)
            have hw := num_ok (m := 15) k3 x27.2.2.2.2.2 (by decide) (by decide)
            have hso := x27.2.2.2.2.1
            intro x29 e29 K31 hK31
            have hbad : ¬ (okN tp L (n1 tp L (n1 tp L (n1 tp L t))) 15 ∧ nC tp L (n1 tp L (n1 tp L (n1 tp L t))) ≠ nC tp L (n1 tp L t)) → K31 0 := by
              intro no
              refine hK31 0 (v_X9_must _ z27 _ t27 tp L _ x27 k3 b27 (fun q => absurd rfl q) (fun _ z32 t32 s32 n32 f32 => ?_))
              refine G.2 _ _ z32 _ t32 (s27'.tr s32 (by decide) (by decide)) n32 f32 ?_
              rw [hR]; unfold pB; rw [pIf_t ok1, pIf_t w5, pIf_f no]
            intro K34 hK34
            refine ⟨fun c => hK34 (hbad (fun q => c (toI_inj (by rw [hso]; exact (hw.1.mpr q.1).1)))), fun c => ⟨fun cl => hK34 (hbad (fun q => ?_)), fun cl => ⟨fun ce => hK34 (hbad (fun q => ?_)), fun ce => ?_⟩⟩⟩
            · have h1 := lgc_gt.mp cl
              have h2 := (hw.1.mpr q.1).2
              rw [show (15 : Int64).toInt = 15 from rfl] at h1
              omega
            · have h1 := lgc0.mp ce
              rw [show (Int32.toInt64 r12).toInt = r12.toInt from a_wide rfl, hr12, hw.2 q.1] at h1
              exact q.2 h1
            · have cl' : ¬ (15 : Int64).toInt < (gJ z27 40).toInt := fun q => cl (lgc_gt.mpr q)
              rw [show (15 : Int64).toInt = 15 from rfl] at cl'
              have ok2 : okN tp L (n1 tp L (n1 tp L (n1 tp L t))) 15 := hw.1.mp ⟨by rw [← hso, c]; rfl, by omega⟩
              have hne : nC tp L (n1 tp L (n1 tp L (n1 tp L t))) ≠ nC tp L (n1 tp L t) := fun q => ce (lgc0.mpr (by rw [hw.2 ok2, show (Int32.toInt64 r12).toInt = r12.toInt from a_wide rfl, hr12, q]))
              refine hK31 1 (v_X9_must _ z27 _ t27 tp L _ x27 k3 b27 (fun _ z32 t32 s32 x32 => ?_) (fun q => absurd q (by decide)))
              refine G.1 _ _ z32 ((n1 tp L (n1 tp L (n1 tp L (n1 tp L t)))), ((2 : Int), nC tp L (n1 tp L t), nC tp L (n1 tp L (n1 tp L (n1 tp L t))), (0 : Int))) t32 (s27'.tr s32 (by decide) (by decide)) (b42 b27 s32 (by decide)) (vv2 s32 v27 (by decide) (by decide)) x32 k4 ?_ ⟨rfl, hr12, by rw [e29]; exact l32 (p := nC tp L (n1 tp L (n1 tp L (n1 tp L t)))) (hw.2 ok2) (by have := nC_hi ok2; omega) (by have := nC_hi ok2; omega), rfl⟩
              rw [hR]; unfold pB; rw [pIf_t ok1, pIf_t w5, pIf_t ⟨ok2, hne⟩]
          · refine v_X9_must _ z11 _ t11 tp L _ x11 k2 b11 (fun q => absurd rfl q) (fun _ z27 t27 s27 n27 f27 => ?_)
            have hf : ∀ a b, K15 a b z27 := fun a b => G.2 a b z27 _ t27 (s11'.tr s27 (by decide) (by decide)) n27 f27 (by rw [hR]; unfold pB; rw [pIf_t ok1, pIf_f w5])
            intro x29 _ K31 hK31
            have h31 : ∀ s, K31 s := fun s => hK31 s (mb_must _ _ _ n27 (hf _ _))
            intro K34 hK34
            exact ⟨fun _ => hK34 (h31 _), fun _ => ⟨fun _ => hK34 (h31 _), fun _ => ⟨fun _ => hK34 (h31 _), fun _ => h31 _⟩⟩⟩
        · intro K15 hK15
          have G := good r12 K15 hK15
          have hf : ∀ a b, K15 a b z11 := fun a b => G.2 a b z11 _ t11 (s7'.tr s11 (by decide) (by decide)) n11 f11 (by rw [hR]; unfold pB; rw [pIf_f no1])
          refine ⟨fun _ => ⟨fun q => absurd rfl q, fun _ => ?_⟩, fun q => absurd q (by decide)⟩
          refine s_X9_isWord _ _ _ _ _ _ _ _ t11 (fun r26 _ => mb_must _ _ _ n11 ?_)
          intro x29 _ K31 hK31
          have h31 : ∀ s, K31 s := fun s => hK31 s (mb_must _ _ _ n11 (hf _ _))
          intro K34 hK34
          exact ⟨fun _ => hK34 (h31 _), fun _ => ⟨fun _ => hK34 (h31 _), fun _ => ⟨fun _ => hK34 (h31 _), fun _ => h31 _⟩⟩⟩
      · exact absurd (Int32.lt_iff_toInt_lt.mpr (by rw [q, wm, w0]; decide)) c
  refine v_X9_isWord0 z _ tp L t hs tk (fun u0 => ?_) (fun u0 => ?_)
  · intro K4 hK4
    exact ⟨fun q => absurd q (by decide), fun _ => main K4 hK4 0 (Or.inl ⟨rfl, u0⟩)⟩
  · intro K4 hK4
    refine ⟨fun _ => ?_, fun q => absurd rfl q⟩
    refine v_X9_isWord1 z _ tp L t hs tk (fun u1 => ?_) (fun u1 => ?_)
    · exact ⟨fun q => absurd q (by decide), fun _ => main K4 hK4 1 (Or.inr (Or.inl ⟨rfl, u0, u1⟩))⟩
    · refine ⟨fun _ => ?_, fun q => absurd rfl q⟩
      refine v_X9_isWord2 z _ tp L t hs tk (fun u2 => ?_) (fun u2 => ?_)
      · exact ⟨fun q => absurd q (by decide), fun _ => main K4 hK4 2 (Or.inr (Or.inr (Or.inl ⟨rfl, u0, u1, u2⟩)))⟩
      · exact ⟨fun _ => main K4 hK4 (-1) (Or.inr (Or.inr (Or.inr ⟨rfl, u0, u1, u2⟩))), fun q => absurd rfl q⟩
def gt : List RC → Nat → RC
  | [], _ => (0, 0, 0, 0)
  | c :: _, 0 => c
  | _ :: cs, n + 1 => gt cs n
theorem gt_lt {c : RC} : ∀ (cs : List RC) (r : Nat), r < cs.length → gt (cs ++ [c]) r = gt cs r := by
  intro cs
  induction cs with
  | nil => intro r h; exact absurd h (Nat.not_lt_zero _)
  | cons d cs ih =>
    intro r h
    cases r with
    | zero => rfl
    | succ r => exact ih r (Nat.lt_of_succ_lt_succ h)
theorem gt_at {c : RC} : ∀ cs : List RC, gt (cs ++ [c]) cs.length = c := by
  intro cs
  induction cs with
  | nil => rfl
  | cons d cs ih => exact ih
theorem gt_ex {p : RC → Prop} : ∀ cs : List RC, (∃ c, c ∈ cs ∧ p c) ↔ ∃ r, r < cs.length ∧ p (gt cs r) := by
  intro cs
  induction cs with
  | nil => exact ⟨fun ⟨c, h, _⟩ => absurd h List.not_mem_nil, fun ⟨r, h, _⟩ => absurd h (Nat.not_lt_zero _)⟩
  | cons d cs ih =>
    constructor
    · intro ⟨c, h, hp⟩
      rcases List.mem_cons.mp h with e | e
      · rw [e] at hp; exact ⟨0, Nat.succ_pos _, hp⟩
      · obtain ⟨r, h1, h2⟩ := ih.mp ⟨c, e, hp⟩
        exact ⟨r + 1, Nat.succ_lt_succ h1, h2⟩
    · intro ⟨r, h, hp⟩
      cases r with
      | zero => exact ⟨d, List.mem_cons.mpr (Or.inl rfl), hp⟩
      | succ r =>
        obtain ⟨c, h1, h2⟩ := ih.mpr ⟨r, Nat.lt_of_succ_lt_succ h, hp⟩
        exact ⟨c, List.mem_cons.mpr (Or.inr h1), h2⟩
/-- row 24 holds the list -/
def NR (f : Nat → Int32) (cs : List RC) : Prop := ∀ r, r < cs.length → (f (4 * r)).toInt = (gt cs r).1 ∧ (f (4 * r + 1)).toInt = (gt cs r).2.1 ∧ (f (4 * r + 2)).toInt = (gt cs r).2.2.1 ∧ (f (4 * r + 3)).toInt = (gt cs r).2.2.2
theorem NR_nil (f : Nat → Int32) : NR f [] := fun r h => absurd h (Nat.not_lt_zero _)
theorem NR_app {f g : Nat → Int32} {cs : List RC} {c : RC} (h : NR f cs) (k : C4 f g cs.length c) : NR g (cs ++ [c]) := by
  intro r hr
  rw [List.length_append] at hr
  have hr' : r < cs.length + 1 := hr
  by_cases e : r = cs.length
  · rw [e, gt_at]
    exact ⟨k.1, k.2.1, k.2.2.1, k.2.2.2.1⟩
  · rw [gt_lt cs r (by omega), k.2.2.2.2 _ (by omega), k.2.2.2.2 _ (by omega), k.2.2.2.2 _ (by omega), k.2.2.2.2 _ (by omega)]
    exact h r (by omega)
/-- the four rows hold the list -/
def N4R (z : St) (cs : List RC) : Prop := ∀ r, r < cs.length → (gF z 14 r).toInt = (gt cs r).1 ∧ (gF z 15 r).toInt = (gt cs r).2.1 ∧ (gF z 16 r).toInt = (gt cs r).2.2.1 ∧ (gF z 17 r).toInt = (gt cs r).2.2.2
def OUN (o : Sum Nat (List RC)) (r : Int32) (ft : Int32) (z z2 : St) : Prop := match o with
  | Sum.inl f => r.toInt = -6 ∧ ft.toInt = (f : Int) ∧ gI z2 22 = gI z 22 ∧ gF z2 14 = gF z 14 ∧ gF z2 15 = gF z 15 ∧ gF z2 16 = gF z 16 ∧ gF z2 17 = gF z 17
  | Sum.inr cs => r.toInt = (cs.length : Int) ∧ ft.toInt = -1 ∧ (gI z2 22).toInt = (cs.length : Int) ∧ N4R z2 cs
abbrev RKI : List Nat := [0, 1, 34, 36, 37, 38, 39, 41, 42]
set_option maxHeartbeats 4000000 in
theorem w_X9_rules (z : St) (P : Int32 → St → Prop) (ht : TM z) (tp : Nat → Int32) (L : Nat) (h25 : gF z 25 = tp) (hL : (gI z 36).toInt = (L : Int)) (hk : ∀ (r : Int32) (z2 : St), TM z2 → Same RLI RLF z z2 → (gI z2 36).toInt = 0 → OUN (pA tp L) r (gI z2 41) z z2 → P r z2) : wp_X9_rules z P := by
  have w0 : (0 : Int32).toInt = 0 := rfl
  unfold wp_X9_rules
  intro z1 e1 z2 e2 z3 e3 z4 e4 z5 e5
  have t1 : TM z1 := by rw [e1]; exact Ty_wI ht trivial
  have t2 : TM z2 := by rw [e2]; exact Ty_wI t1 (show 0 ≤ (0 : Int32).toInt ∧ (0 : Int32).toInt ≤ 300 by decide)
  have t3 : TM z3 := by rw [e3]; exact Ty_wI t2 (show 0 ≤ (0 : Int32).toInt ∧ (0 : Int32).toInt ≤ 1 by decide)
  have t4 : TM z4 := by rw [e4]; exact Ty_wI t3 trivial
  have t5 : TM z5 := by rw [e5]; exact Ty_wI t4 (show 0 ≤ (0 : Int32).toInt ∧ (0 : Int32).toInt ≤ 20 by decide)
  have s5 : Same RKI [24] z z5 := ((((Same.rf.i (by decide) e1).i (by decide) e2).i (by decide) e3).i (by decide) e4).i (by decide) e5
  have g36 : (gI z5 36).toInt = (L : Int) := by rw [e5, e4, e3, e2, e1]; exact hL
  have g38 : (gI z5 38).toInt = ((0 : Nat) : Int) := by rw [e5, e4, e3, e2]; rfl
  have g42 : gI z5 42 = 0 := by rw [e5, e4, e3]; rfl
  have g41 : gI z5 41 = -1 := by rw [e5, e4]; rfl
  have g34 : gI z5 34 = 0 := by rw [e5]; rfl
  refine v_X9_next z5 _ t5 tp L 0 ((s5.2 25 (by decide)).trans h25) g36 g38 (Nat.zero_le _) (fun z6 t6 s6 x6 => ?_)
  have s6' : Same RKI [24] z z6 := s5.tr s6 (by decide) (by decide)
  have k6 := TK_nx tp L 0 (Nat.zero_le _)
  have b6 : gI z6 42 = 0 := b42 g42 s6 (by decide)
  have f6 : gI z6 41 = -1 := (s6.1 41 (by decide)).trans g41
  have m6 : (gI z6 34).toInt = ((0 : Nat) : Int) := by rw [s6.1 34 (by decide), g34]; rfl
  intro K8 hK8
  -- the end: what was read
  have h8 : ∀ z9 : St, TM z9 → Same RKI [24] z z9 → (match pA tp L with | Sum.inl f => ¬ gI z9 42 = 0 ∧ (gI z9 41).toInt = (f : Int) | Sum.inr cs => gI z9 42 = 0 ∧ gI z9 41 = -1 ∧ (gI z9 34).toInt = (cs.length : Int) ∧ NR (gF z9 24) cs) → K8 z9 := by
    intro z9 t9 s9 o9
    refine hK8 z9 ?_
    intro z10 e10
    have t10 : TM z10 := by rw [e10]; exact Ty_wI t9 (show 0 ≤ (0 : Int32).toInt ∧ (0 : Int32).toInt ≤ 300 by decide)
    have s10 : Same RKI [24] z z10 := s9.i (by decide) e10
    have a36 : (gI z10 36).toInt = 0 := by rw [e10]; rfl
    have a42 : gI z10 42 = gI z9 42 := by rw [e10]; rfl
    have a41 : gI z10 41 = gI z9 41 := by rw [e10]; rfl
    have a34 : gI z10 34 = gI z9 34 := by rw [e10]; rfl
    refine ⟨fun c => ?_, fun c => ?_⟩
    · rw [a42] at c
      obtain ⟨cs, hq, o9a, o9b, o9c⟩ : ∃ cs, pA tp L = Sum.inr cs ∧ gI z9 41 = -1 ∧ (gI z9 34).toInt = (cs.length : Int) ∧ NR (gF z9 24) cs := by
        rcases hq : pA tp L with f | cs
        · rw [hq] at o9; exact absurd c o9.1
        · rw [hq] at o9; exact ⟨cs, rfl, o9.2.1, o9.2.2.1, o9.2.2.2⟩
      intro z12 e12
      have f34 : 0 ≤ (gI z10 34).toInt ∧ (gI z10 34).toInt ≤ 20 := t10.1 34
      have t12 : TM z12 := by rw [e12]; exact Ty_wI t10 f34
      have s12 : Same RLI RLF z z12 := (Same.tr (z1 := z) Same.rf s10 (by decide) (by decide)).i (by decide) e12
      have n12 : gI z12 22 = gI z9 34 := by rw [e12]; exact a34
      have a3612 : (gI z12 36).toInt = 0 := by rw [e12]; exact a36
      have a4112 : gI z12 41 = gI z9 41 := by rw [e12]; exact a41
      have a2412 : gF z12 24 = gF z9 24 := by rw [e12, e10]; rfl
      intro K14 hK14
      have LL : ∀ (n : Nat) (v13 : Int32) (z15 : St), TM z15 → Same RLI RLF z z15 → Same [] [14, 15, 16, 17] z12 z15 → 0 ≤ v13.toInt → v13.toInt ≤ 20 → (∀ r : Nat, (r : Int) < v13.toInt → gF z15 14 r = gF z9 24 (4 * r) ∧ gF z15 15 r = gF z9 24 (4 * r + 1) ∧ gF z15 16 r = gF z9 24 (4 * r + 2) ∧ gF z15 17 r = gF z9 24 (4 * r + 3)) → (20 - v13.toInt).toNat < n → K14 v13 z15 := by
        intro n
        induction n with
        | zero => intro v13 z15 _ _ _ _ _ _ q; omega
        | succ n ih =>
          intro v13 z15 t15 s15 d15 g0 g1 hrow gm
          have cv := clampN g0
          have r22 : gI z15 22 = gI z9 34 := (d15.1 22 (by decide)).trans n12
          have f34' : 0 ≤ (gI z9 34).toInt ∧ (gI z9 34).toInt ≤ 20 := t9.1 34
          refine hK14 v13 z15 ⟨fun cc => ?_, fun cc => ?_⟩
          · rw [r22] at cc
            have cc' := i_le rfl rfl cc
            refine s_X9_told _ _ _ t15 (fun r z17 t17 s17 p17 => ?_)
            refine hk r z17 t17 (s15.tr s17 (by decide) (by decide)) ?_ ?_
            · rw [s17.1 36 (by decide), d15.1 36 (by decide)]; exact a3612
            · rw [hq]
              refine ⟨?_, ?_, ?_, fun k hk' => ?_⟩
              · rw [p17, r22]; exact o9b
              · rw [s17.1 41 (by decide), d15.1 41 (by decide), a4112, o9a]; rfl
              · rw [s17.1 22 (by decide), r22]; exact o9b
              · rw [s17.2 14 (by decide), s17.2 15 (by decide), s17.2 16 (by decide), s17.2 17 (by decide)]
                obtain ⟨w1, w2, w3, w4⟩ := hrow k (by omega)
                rw [w1, w2, w3, w4]
                exact o9c k hk'
          · rw [r22] at cc
            have c' := i_nle rfl rfl cc
            have hv : vp_in v13 20 := vin rfl g0 (by omega)
            have m4 : ((4 : Int32) * v13).toInt = 4 * v13.toInt := a_mul rfl rfl (by omega) (by omega)
            have m41 : ((4 : Int32) * v13 + (1 : Int32)).toInt = 4 * v13.toInt + 1 := a_add m4 rfl (by omega) (by omega)
            have m42 : ((4 : Int32) * v13 + (2 : Int32)).toInt = 4 * v13.toInt + 2 := a_add m4 rfl (by omega) (by omega)
            have m43 : ((4 : Int32) * v13 + (3 : Int32)).toInt = 4 * v13.toInt + 3 := a_add m4 rfl (by omega) (by omega)
            have k0 := clampN (x := (4 : Int32) * v13) (by omega)
            have k1 := clampN (x := (4 : Int32) * v13 + (1 : Int32)) (by omega)
            have k2 := clampN (x := (4 : Int32) * v13 + (2 : Int32)) (by omega)
            have k3 := clampN (x := (4 : Int32) * v13 + (3 : Int32)) (by omega)
            have y15 : gF z15 24 = gF z9 24 := (d15.2 24 (by decide)).trans a2412
            rw [show ((4 : Int32) * v13).toNatClampNeg = 4 * v13.toNatClampNeg by omega, show ((4 : Int32) * v13 + (1 : Int32)).toNatClampNeg = 4 * v13.toNatClampNeg + 1 by omega, show ((4 : Int32) * v13 + (2 : Int32)).toNatClampNeg = 4 * v13.toNatClampNeg + 2 by omega, show ((4 : Int32) * v13 + (3 : Int32)).toNatClampNeg = 4 * v13.toNatClampNeg + 3 by omega]
            refine ⟨vin m4 (by omega) (by omega), hv, ?_⟩
            intro z19 e19
            refine ⟨vin m41 (by omega) (by omega), hv, ?_⟩
            intro z20 e20
            refine ⟨vin m42 (by omega) (by omega), hv, ?_⟩
            intro z21 e21
            refine ⟨vin m43 (by omega) (by omega), hv, ?_⟩
            intro z22 e22 x23 e23
            have i23 : x23.toInt = v13.toInt + 1 := by rw [e23]; exact a_add rfl rfl (by omega) (by omega)
            have t19 : TM z19 := by rw [e19]; exact Ty_wR t15 trivial
            have t20 : TM z20 := by rw [e20]; exact Ty_wR t19 trivial
            have t21 : TM z21 := by rw [e21]; exact Ty_wR t20 trivial
            have t22 : TM z22 := by rw [e22]; exact Ty_wR t21 trivial
            have y19 : gF z19 24 = gF z9 24 := by rw [e19]; exact y15
            have y20 : gF z20 24 = gF z9 24 := by rw [e20]; exact y19
            have y21 : gF z21 24 = gF z9 24 := by rw [e21]; exact y20
            have w14 : gF z22 14 = upd (gF z15 14) v13.toNatClampNeg (gF z9 24 (4 * v13.toNatClampNeg)) := by rw [e22, e21, e20]; show gF z19 14 = _; rw [e19, gF_wR, y15]
            have w15 : gF z22 15 = upd (gF z15 15) v13.toNatClampNeg (gF z9 24 (4 * v13.toNatClampNeg + 1)) := by rw [e22, e21]; show gF z20 15 = _; rw [e20, gF_wR, y19, e19]; rfl
            have w16 : gF z22 16 = upd (gF z15 16) v13.toNatClampNeg (gF z9 24 (4 * v13.toNatClampNeg + 2)) := by rw [e22]; show gF z21 16 = _; rw [e21, gF_wR, y20, e20, e19]; rfl
            have w17 : gF z22 17 = upd (gF z15 17) v13.toNatClampNeg (gF z9 24 (4 * v13.toNatClampNeg + 3)) := by rw [e22, gF_wR, y21, e21, e20, e19]; rfl
            refine ih x23 z22 t22 ((((s15.r (by decide) e19).r (by decide) e20).r (by decide) e21).r (by decide) e22) ((((d15.r (by decide) e19).r (by decide) e20).r (by decide) e21).r (by decide) e22) (by omega) (by omega) (fun k hk' => ?_) (by omega)
            rw [w14, w15, w16, w17]
            by_cases e : k = v13.toNatClampNeg
            · rw [e, upd_at, upd_at, upd_at, upd_at]; exact ⟨rfl, rfl, rfl, rfl⟩
            · rw [upd_ne e, upd_ne e, upd_ne e, upd_ne e]; exact hrow k (by omega)
      exact LL 21 0 z12 t12 s12 Same.rf (by omega) (by omega) (fun k hk' => by omega) (by omega)
    · rw [a42] at c
      refine s_X9_told _ _ _ t10 (fun r z17 t17 s17 p17 => ?_)
      refine hk r z17 t17 ((Same.tr (z1 := z) Same.rf s10 (by decide) (by decide)).tr s17 (by decide) (by decide)) (by rw [s17.1 36 (by decide)]; exact a36) ?_
      have u := s10.tr s17 (by decide) (by decide)
      rw [s17.1 41 (by decide), a41]
      rcases hq : pA tp L with f | cs
      · rw [hq] at o9; exact ⟨by rw [p17]; rfl, o9.2, u.1 22 (by decide), u.2 14 (by decide), u.2 15 (by decide), u.2 16 (by decide), u.2 17 (by decide)⟩
      · rw [hq] at o9; exact absurd o9.1 c
  have hso6 := x6.2.2.2.2.1
  refine ⟨fun c => ?_, fun c => ?_⟩
  · have hend : L ≤ (nx tp L 0).1 := so_0.mp (by rw [← hso6, c]; rfl)
    refine h8 z6 t6 s6' ?_
    have hA : pA tp L = Sum.inr [] := by unfold pA; rw [pIf_t hend]
    rw [hA]
    exact ⟨b6, f6, m6, NR_nil _⟩
  · have hend : ¬ L ≤ (nx tp L 0).1 := fun q => c (toI_inj (by rw [hso6, so_0.mpr q]; rfl))
    have hA : pA tp L = pL tp L 20 (nx tp L 0) := by unfold pA; rw [pIf_f hend]
    intro K27 hK27
    have LL : ∀ (n v : Nat) (t : Nat × Nat) (pre : List RC) (za z28 : St), TM z28 → Same RKI [24] z z28 → v + n = 20 → v = pre.length → NR (gF za 24) pre → TK tp L t → OUW tp L v (-1) (pV tp L v t) za z28 → REL2 tp L pre (pL tp L n t) → K27 z28 := by
      intro n
      induction n with
      | zero =>
        intro v t pre za z28 t28 s28 hn hpl nr tk o28 hr
        have hV : pV tp L v t = Sum.inl t.1 := by unfold pV; rw [pIf_f (by omega)]
        rw [hV] at o28
        have o28 : ¬ gI z28 42 = 0 ∧ (gI z28 41).toInt = (t.1 : Int) := o28
        have hr : pA tp L = Sum.inl t.1 := hr
        have h28 : K8 z28 := h8 z28 t28 s28 (by rw [hr]; exact o28)
        refine hK27 z28 ?_
        intro K29 hK29
        have h29 : K29 := hK29 ⟨fun _ => h28, fun c => absurd c o28.1⟩
        exact ⟨fun _ => h29, fun c => absurd c o28.1⟩
      | succ n ih =>
        intro v t pre za z28 t28 s28 hn hpl nr tk o28 hr
        have hV : pV tp L v t = pR tp L t := by unfold pV; rw [pIf_t (by omega)]
        rw [hV] at o28
        rcases hp : pR tp L t with f | x
        · rw [hp] at o28
          have o28 : ¬ gI z28 42 = 0 ∧ (gI z28 41).toInt = (f : Int) := o28
          rw [pL_inl hp] at hr
          have hr : pA tp L = Sum.inl f := hr
          have h28 : K8 z28 := h8 z28 t28 s28 (by rw [hr]; exact o28)
          refine hK27 z28 ?_
          intro K29 hK29
          have h29 : K29 := hK29 ⟨fun _ => h28, fun c => absurd c o28.1⟩
          exact ⟨fun _ => h29, fun c => absurd c o28.1⟩
        · rw [hp] at o28
          have o28 : gI z28 42 = 0 ∧ SM z28 tp L x.1 ∧ TK tp L x.1 ∧ (gI z28 34).toInt = (v : Int) + 1 ∧ gI z28 41 = -1 ∧ C4 (gF za 24) (gF z28 24) v x.2 := o28
          obtain ⟨b28, x28, k28, v28, f28, c28⟩ := o28
          rw [hpl] at c28
          have nr28 : NR (gF z28 24) (pre ++ [x.2]) := NR_app nr c28
          have hso := x28.2.2.2.2.1
          have hsg := sign_6 k28 x28.2.2.2.2.2
          refine hK27 z28 ?_
          intro K29 hK29
          have h29 : ¬ semi tp x.1 → K29 := by
            intro ns
            refine hK29 ⟨fun q => absurd b28 q, fun _ => ⟨fun c0 => ?_, fun c0 => ?_⟩⟩
            · have he : L ≤ x.1.1 := so_0.mp (by rw [← hso, c0]; rfl)
              rw [pL_end hp he] at hr
              have g2 : pA tp L = Sum.inr (pre ++ [x.2]) := hr
              refine h8 z28 t28 s28 ?_
              rw [g2]
              refine ⟨b28, f28, ?_, nr28⟩
              rw [v28, List.length_append, hpl]; rfl
            · have he : ¬ L ≤ x.1.1 := fun q => c0 (toI_inj (by rw [hso, so_0.mpr q]; rfl))
              rw [pL_bad hp he ns] at hr
              have hr : pA tp L = Sum.inl x.1.1 := hr
              refine v_X9_must _ z28 _ t28 tp L _ x28 k28 b28 (fun q => absurd rfl q) (fun _ z32 t32 s32 n32 f32 => ?_)
              exact h8 z32 t32 (s28.tr s32 (by decide) (by decide)) (by rw [hr]; exact ⟨n32, f32⟩)
          refine ⟨fun q => absurd b28 q, fun _ => ⟨fun c3 => h29 (fun q => c3 (toI_inj (by rw [hso]; exact (hsg.mpr q).1))), fun c3 => ⟨fun cl => h29 (fun q => cl (lgc0.mpr ((hsg.mpr q).2.trans (by decide)))), fun cl => ?_⟩⟩⟩
          have hs : semi tp x.1 := hsg.mp ⟨by rw [← hso, c3]; rfl, (lgc0.mp cl).trans (by decide)⟩
          have he : ¬ L ≤ x.1.1 := fun q => by
            have := (so_0 (tp := tp) (t := x.1)).mpr q
            rw [← hso, c3] at this
            exact absurd this (by decide)
          refine v_X9_next z28 _ t28 tp L x.1.2 x28.1 x28.2.1 x28.2.2.2.1 k28.2.1 (fun z37 t37 s37 x37 => ?_)
          have s37' : Same RKI [24] z z37 := s28.tr s37 (by decide) (by decide)
          have b37 : gI z37 42 = 0 := b42 b28 s37 (by decide)
          have k37 : TK tp L (n1 tp L x.1) := TK_n1 k28
          refine w_X9_readRule z37 _ t37 tp L (v + 1) (n1 tp L x.1) x37 k37 b37 (by rw [s37.1 34 (by decide), v28]; rfl) (fun z39 t39 s39 o39 => ?_)
          rw [s37.1 41 (by decide), f28] at o39
          refine ih (v + 1) (n1 tp L x.1) (pre ++ [x.2]) z37 z39 t39 (s37'.tr s39 (by decide) (by decide)) (by omega) ?_ ?_ k37 o39 (REL2_next hp he hs hr)
          · rw [List.length_append, hpl]; rfl
          · rw [s37.2 24 (by decide)]; exact nr28
    refine w_X9_readRule z6 _ t6 tp L 0 (nx tp L 0) x6 k6 b6 m6 (fun z41 t41 s41 o41 => ?_)
    rw [f6] at o41
    refine LL 20 0 (nx tp L 0) [] z6 z41 t41 (s6'.tr s41 (by decide) (by decide)) (by omega) rfl (NR_nil _) k6 o41 ?_
    rw [← hA]
    rcases hq : pA tp L with f | cs
    · exact hq
    · exact hq
/-- both sides hold the same list: the relation of rules stands -/
theorem RQ_of {zx zm : St} {cs : List RC} (rb : RB (gF zx 35) (gF zx 36) (gI zx 3402) cs) (n22 : (gI zm 22).toInt = (cs.length : Int)) (nr : N4R zm cs) : DEq zx zm ∧ RQ zx zm := by
  obtain ⟨r1, r2, r3, r4⟩ := rb
  have e0 : (0 : Int32).toInt = 0 := rfl
  have e1 : (1 : Int32).toInt = 1 := rfl
  have e2 : (2 : Int32).toInt = 2 := rfl
  have hB : ∀ i j : Nat, i < 16 → j < 16 → (BC cs i j ↔ Bm zm i j) := by
    intro i j hi hj
    unfold BC Bm
    rw [gt_ex]
    constructor
    · intro ⟨r, h1, h2, h3, h4⟩
      obtain ⟨w1, w2, w3, _⟩ := nr r h1
      exact ⟨r, by omega, toI_inj (by omega), toI_inj (by rw [nI_toInt (by omega)]; omega), toI_inj (by rw [nI_toInt (by omega)]; omega)⟩
    · intro ⟨r, h1, h2, h3, h4⟩
      have h1' : r < cs.length := by omega
      obtain ⟨w1, w2, w3, _⟩ := nr r h1'
      rw [h2] at w1
      rw [h3, nI_toInt (by omega)] at w2
      rw [h4, nI_toInt (by omega)] at w3
      exact ⟨r, h1', by omega, by omega, by omega⟩
  refine ⟨fun x hx => ?_, fun h t hh ht => ?_, fun i j hi hj => (r3 i j hi hj).trans (hB i j hi hj), fun i hi hb => ?_⟩
  · rw [Int32.lt_iff_toInt_lt, r2 x.toInt hx]
    unfold DC
    rw [gt_ex]
    constructor
    · intro ⟨r, h1, h2, h3⟩
      obtain ⟨w1, w2, _⟩ := nr r h1
      exact ⟨r, by omega, toI_inj (by omega), Int32.lt_iff_toInt_lt.mpr (by omega)⟩
    · intro ⟨r, h1, h2, h3⟩
      have h1' : r < cs.length := by omega
      obtain ⟨w1, w2, _⟩ := nr r h1'
      rw [h2] at w1
      have h3' := Int32.lt_iff_toInt_lt.mp h3
      exact ⟨r, h1', by omega, by omega⟩
  · refine (r1 h t hh ht).trans ?_
    unfold QC Qm QR
    rw [gt_ex]
    constructor
    · intro ⟨r, h1, h2, h3, h4⟩
      obtain ⟨w1, w2, w3, w4⟩ := nr r h1
      refine ⟨r, by omega, toI_inj (by omega), toI_inj (by rw [nI_toInt (by omega)]; omega), ?_⟩
      rw [Int32.lt_iff_toInt_lt, w3, w4]
      exact h4
    · intro ⟨r, h1, h2, h3, h4⟩
      have h1' : r < cs.length := by omega
      obtain ⟨w1, w2, w3, w4⟩ := nr r h1'
      rw [h2] at w1
      rw [h3, nI_toInt (by omega)] at w2
      rw [Int32.lt_iff_toInt_lt, w3, w4] at h4
      exact ⟨r, h1', by omega, by omega, h4⟩
  · obtain ⟨c, h1, h2, h3, h4⟩ := (hB i i hi hi).mpr hb
    exact r4 c h1 h2 (by omega)
