-- THE REFERENCE'S RULES, as functions of the tape
theorem SM_same {I F : List Nat} {z z1 : St} {tp : Nat → Int32} {L : Nat} {t : Nat × Nat} (h : SM z tp L t) (s : Same I F z z1) (hj : gJ z1 40 = gJ z 40) (h1 : 36 ∉ I) (h2 : 37 ∉ I) (h3 : 38 ∉ I) (h4 : 39 ∉ I) (h25 : 25 ∉ F) : SM z1 tp L t := by
  unfold SM
  rw [s.1 36 h1, s.1 37 h2, s.1 38 h3, s.1 39 h4, s.2 25 h25, hj]
  exact h
abbrev QQI : List Nat := [34, 37, 38, 39, 41, 42]
abbrev QQF : List Nat := [24]
/-- one rule read at token t, v rules before it -/
noncomputable def pV (tp : Nat → Int32) (L v : Nat) (t : Nat × Nat) : Sum Nat ((Nat × Nat) × RC) := pIf (v < 20) (pR tp L t) (Sum.inl t.1)
def OUM (tp : Nat → Int32) (L v : Nat) (ft : Int32) (o : Sum Nat ((Nat × Nat) × RC)) (z2 : St) : Prop := match o with
  | Sum.inl f => ¬ gI z2 42 = 0 ∧ (gI z2 41).toInt = (f : Int)
  | Sum.inr x => gI z2 42 = 0 ∧ SM z2 tp L x.1 ∧ TK tp L x.1 ∧ (gI z2 34).toInt = (v : Int) + 1 ∧ gI z2 41 = ft
theorem b42 {z z1 : St} {I F : List Nat} (h : gI z 42 = 0) (s : Same I F z z1) (hI : 42 ∉ I) : gI z1 42 = 0 := (s.1 42 hI).trans h
theorem vv2 {z z0 z1 : St} {I F : List Nat} (s : Same I F z0 z1) (h : gI z0 34 = gI z 34 ∧ gI z0 41 = gI z 41) (h1 : 34 ∉ I) (h2 : 41 ∉ I) : gI z1 34 = gI z 34 ∧ gI z1 41 = gI z 41 := ⟨(s.1 34 h1).trans h.1, (s.1 41 h2).trans h.2⟩
set_option maxHeartbeats 1000000 in
theorem v_X9_readRule (z : St) (P : St → Prop) (ht : TM z) (tp : Nat → Int32) (L v : Nat) (t : Nat × Nat) (hs : SM z tp L t) (tk : TK tp L t) (hb : gI z 42 = 0) (hv : (gI z 34).toInt = (v : Int)) (hk : ∀ z2 : St, TM z2 → Same QQI QQF z z2 → OUM tp L v (gI z 41) (pV tp L v t) z2 → P z2) : wp_X9_readRule z P := by
  have f34 : 0 ≤ (gI z 34).toInt ∧ (gI z 34).toInt ≤ 20 := ht.1 34
  have k1 := TK_n1 tk
  have k2 := TK_n1 k1
  have k3 := TK_n1 k2
  have k4 := TK_n1 k3
  have k5 := TK_n1 k4
  have k6 := TK_n1 k5
  have w0 : (0 : Int32).toInt = 0 := rfl
  have wm : (-1 : Int32).toInt = -1 := rfl
  unfold wp_X9_readRule
  -- what the first word was
  have main : ∀ (K4 : Int32 → Prop), (∀ (s3 : Int32), (∀ K6 : Int32 → Prop, (∀ (s5 : Int32), (wp_X9_must s5 z (fun z7 => (∀ K10 : Int64 → Prop, (∀ (s9 : Int64), (wp_X9_number s9 z7 (fun r12 z11 => (∀ K15 : Int32 → Int32 → St → Prop, (∀ (v13 : Int32) (v14 : Int32) (z16 : St), ((((gI z16 42) = 0) → (vp_in (((4 : Int32)) * (gI z16 34)) 80 ∧ (∀ z18 : St, z18 = wR z16 24 (upd (gF z16 24) (((4 : Int32)) * (gI z16 34)).toNatClampNeg s3) → (vp_in ((((4 : Int32)) * (gI z18 34)) + ((1 : Int32))) 80 ∧ (∀ z19 : St, z19 = wR z18 24 (upd (gF z18 24) ((((4 : Int32)) * (gI z18 34)) + ((1 : Int32))).toNatClampNeg r12) → (vp_in ((((4 : Int32)) * (gI z19 34)) + ((2 : Int32))) 80 ∧ (∀ z20 : St, z20 = wR z19 24 (upd (gF z19 24) ((((4 : Int32)) * (gI z19 34)) + ((2 : Int32))).toNatClampNeg v13) → (vp_in ((((4 : Int32)) * (gI z20 34)) + ((3 : Int32))) 80 ∧ (∀ z21 : St, z21 = wR z20 24 (upd (gF z20 24) ((((4 : Int32)) * (gI z20 34)) + ((3 : Int32))).toNatClampNeg v14) → (∀ z22 : St, z22 = wI z21 34 ((gI z21 34) + ((1 : Int32))) → P z22)))))))))) ∧ (¬ ((gI z16 42) = 0) → P z16)) → K15 v13 v14 z16) → (((¬ s3 = 0) → (((¬ s3 = ((2 : Int32))) → K15 ((0 : Int32)) ((0 : Int32)) z11) ∧ (s3 = ((2 : Int32)) → (wp_X9_isWord ((98 : Int32)) ((101 : Int32)) ((102 : Int32)) ((111 : Int32)) ((114 : Int32)) ((101 : Int32)) z11 (fun r26 => (wp_X9_must r26 z11 (fun z27 => (∀ x29 : Int32, x29 = Int64.toInt32 (gJ z27 40) → (∀ K31 : Int32 → Prop, (∀ (s30 : Int32), (wp_X9_must s30 z27 (fun z32 => K15 x29 ((0 : Int32)) z32)) → K31 s30) → (∀ K34 : Prop, (K31 ((0 : Int32)) → K34) → (((¬ (gI z27 39) = ((2 : Int32))) → K34) ∧ ((gI z27 39) = ((2 : Int32)) → (((0 < (lg_cmp (gJ z27 40) ((15 : Int64)))) → K34) ∧ (¬ (0 < (lg_cmp (gJ z27 40) ((15 : Int64)))) → ((((lg_cmp (gJ z27 40) (Int32.toInt64 r12)) = 0) → K34) ∧ (¬ ((lg_cmp (gJ z27 40) (Int32.toInt64 r12)) = 0) → K31 ((1 : Int32)))))))))))))))))) ∧ (s3 = 0 → (wp_X9_isWord ((102 : Int32)) ((114 : Int32)) ((111 : Int32)) ((109 : Int32)) ((0 : Int32)) ((0 : Int32)) z11 (fun r39 => (wp_X9_must r39 z11 (fun z40 => (wp_X9_number ((23 : Int64)) z40 (fun r43 z42 => (wp_X9_isWord ((116 : Int32)) ((111 : Int32)) ((0 : Int32)) ((0 : Int32)) ((0 : Int32)) ((0 : Int32)) z42 (fun r45 => (wp_X9_must r45 z42 (fun z46 => (wp_X9_number ((23 : Int64)) z46 (fun r49 z48 => K15 r43 r49 z48))))))))))))))))) → K10 s9) → (((¬ s3 = 0) → (((¬ s3 = ((1 : Int32))) → K10 ((15 : Int64))) ∧ (s3 = ((1 : Int32)) → K10 ((10000 : Int64))))) ∧ (s3 = 0 → K10 ((3 : Int64))))))) → K6 s5) → (∀ K52 : Prop, (K6 ((0 : Int32)) → K52) → (((s3 < 0) → K52) ∧ (¬ (s3 < 0) → (((((20 : Int32)) ≤ (gI z 34)) → K52) ∧ (¬ (((20 : Int32)) ≤ (gI z 34)) → K6 ((1 : Int32)))))))) → K4 s3) → ∀ s3 : Int32, ((s3 = 0 ∧ isW 0 5 tp t) ∨ (s3 = 1 ∧ ¬ isW 0 5 tp t ∧ isW 1 4 tp t) ∨ (s3 = 2 ∧ ¬ isW 0 5 tp t ∧ ¬ isW 1 4 tp t ∧ isW 2 3 tp t) ∨ (s3 = -1 ∧ ¬ isW 0 5 tp t ∧ ¬ isW 1 4 tp t ∧ ¬ isW 2 3 tp t)) → K4 s3 := by
    intro K4 hK4 s3 hs3
    refine hK4 s3 ?_
    intro K6 hK6
    -- the first must fails: nothing more is read
    have h60 : pV tp L v t = Sum.inl t.1 → K6 0 := by
      intro hV
      refine hK6 0 (v_X9_must _ z _ ht tp L t hs tk hb (fun q => absurd rfl q) (fun _ z7 t7 s7 n7 f7 => ?_))
      have hfin : P z7 := hk z7 t7 (Same.tr (z1 := z) Same.rf s7 (by decide) (by decide)) (by rw [hV]; exact ⟨n7, f7⟩)
      intro K10 hK10
      have h10 : ∀ s9, K10 s9 := by
        intro s9
        refine hK10 s9 (mb_number _ _ _ n7 (fun r12 => ?_))
        intro K15 hK15
        have h15 : ∀ a b, K15 a b z7 := fun a b => hK15 a b z7 ⟨fun c => absurd c n7, fun _ => hfin⟩
        refine ⟨fun _ => ⟨fun _ => h15 _ _, fun _ => ?_⟩, fun _ => ?_⟩
        · refine s_X9_isWord _ _ _ _ _ _ _ _ t7 (fun r26 _ => mb_must _ _ _ n7 ?_)
          intro x29 _ K31 hK31
          have h31 : ∀ s, K31 s := fun s => hK31 s (mb_must _ _ _ n7 (h15 _ _))
          intro K34 hK34
          exact ⟨fun _ => hK34 (h31 _), fun _ => ⟨fun _ => hK34 (h31 _), fun _ => ⟨fun _ => hK34 (h31 _), fun _ => h31 _⟩⟩⟩
        · refine s_X9_isWord _ _ _ _ _ _ _ _ t7 (fun r39 _ => mb_must _ _ _ n7 (mb_number _ _ _ n7 (fun r43 => ?_)))
          exact s_X9_isWord _ _ _ _ _ _ _ _ t7 (fun r45 _ => mb_must _ _ _ n7 (mb_number _ _ _ n7 (fun r49 => h15 _ _)))
      exact ⟨fun _ => ⟨fun _ => h10 _, fun _ => h10 _⟩, fun _ => h10 _⟩
    intro K52 hK52
    refine ⟨fun c => hK52 (h60 ?_), fun c => ⟨fun c20 => hK52 (h60 ?_), fun c20 => ?_⟩⟩
    · -- no word
      have c' := i_lt rfl w0 c
      rcases hs3 with ⟨q, _⟩ | ⟨q, _⟩ | ⟨q, _⟩ | ⟨q, u0, u1, u2⟩
      · rw [q, w0] at c'; omega
      · rw [q, show (1 : Int32).toInt = 1 from rfl] at c'; omega
      · rw [q, show (2 : Int32).toInt = 2 from rfl] at c'; omega
      · unfold pV
        by_cases h20 : v < 20
        · rw [pIf_t h20]; unfold pR; rw [pIf_f u0, pIf_f u1, pIf_f u2]
        · rw [pIf_f h20]
    · have c20' := i_le (p := 20) rfl rfl c20
      unfold pV; rw [pIf_f (by omega)]
    · have c20' := i_nle (p := 20) rfl rfl c20
      have hV : pV tp L v t = pR tp L t := by unfold pV; rw [pIf_t (by omega)]
      rw [hV] at hk
      refine hK6 1 (v_X9_must _ z _ ht tp L t hs tk hb (fun _ z7 t7 s7 x7 => ?_) (fun q => absurd q (by decide)))
      have s7' : Same QQI QQF z z7 := Same.tr (z1 := z) Same.rf s7 (by decide) (by decide)
      have b7 : gI z7 42 = 0 := b42 hb s7 (by decide)
      intro K10 hK10
      -- the end of a rule
      have good : ∀ (r12 : Int32) (K15 : Int32 → Int32 → St → Prop), (∀ (v13 : Int32) (v14 : Int32) (z16 : St), ((((gI z16 42) = 0) → (vp_in (((4 : Int32)) * (gI z16 34)) 80 ∧ (∀ z18 : St, z18 = wR z16 24 (upd (gF z16 24) (((4 : Int32)) * (gI z16 34)).toNatClampNeg s3) → (vp_in ((((4 : Int32)) * (gI z18 34)) + ((1 : Int32))) 80 ∧ (∀ z19 : St, z19 = wR z18 24 (upd (gF z18 24) ((((4 : Int32)) * (gI z18 34)) + ((1 : Int32))).toNatClampNeg r12) → (vp_in ((((4 : Int32)) * (gI z19 34)) + ((2 : Int32))) 80 ∧ (∀ z20 : St, z20 = wR z19 24 (upd (gF z19 24) ((((4 : Int32)) * (gI z19 34)) + ((2 : Int32))).toNatClampNeg v13) → (vp_in ((((4 : Int32)) * (gI z20 34)) + ((3 : Int32))) 80 ∧ (∀ z21 : St, z21 = wR z20 24 (upd (gF z20 24) ((((4 : Int32)) * (gI z20 34)) + ((3 : Int32))).toNatClampNeg v14) → (∀ z22 : St, z22 = wI z21 34 ((gI z21 34) + ((1 : Int32))) → P z22)))))))))) ∧ (¬ ((gI z16 42) = 0) → P z16)) → K15 v13 v14 z16) → (∀ (a b : Int32) (z16 : St) (x : (Nat × Nat) × RC), TM z16 → Same QQI QQF z z16 → gI z16 42 = 0 → (gI z16 34 = gI z 34 ∧ gI z16 41 = gI z 41) → SM z16 tp L x.1 → TK tp L x.1 → pR tp L t = Sum.inr x → K15 a b z16) ∧ (∀ (a b : Int32) (z16 : St) (f : Nat), TM z16 → Same QQI QQF z z16 → ¬ gI z16 42 = 0 → (gI z16 41).toInt = (f : Int) → pR tp L t = Sum.inl f → K15 a b z16) := by
        intro r12 K15 hK15
        refine ⟨fun a b z16 x t16 s16 n16 v16 x16 k16 hR => ?_, fun a b z16 f t16 s16 n16 f16 hR => ?_⟩
        · refine hK15 a b z16 ⟨fun _ => ?_, fun c => absurd n16 c⟩
          have m4 : ∀ zz : St, gI zz 34 = gI z 34 → ((4 : Int32) * gI zz 34).toInt = 4 * (v : Int) := fun zz h => by rw [h]; exact a_mul rfl hv (by omega) (by omega)
          refine ⟨vin (m4 _ v16.1) (by omega) (by omega), ?_⟩
          intro z18 e18
          have v18 : gI z18 34 = gI z 34 := by rw [e18]; exact v16.1
          refine ⟨vin (a_add (m4 _ v18) (show (1 : Int32).toInt = 1 from rfl) (by omega) (by omega)) (by omega) (by omega), ?_⟩
          intro z19 e19
          have v19 : gI z19 34 = gI z 34 := by rw [e19]; exact v18
          refine ⟨vin (a_add (m4 _ v19) (show (2 : Int32).toInt = 2 from rfl) (by omega) (by omega)) (by omega) (by omega), ?_⟩
          intro z20 e20
          have v20 : gI z20 34 = gI z 34 := by rw [e20]; exact v19
          refine ⟨vin (a_add (m4 _ v20) (show (3 : Int32).toInt = 3 from rfl) (by omega) (by omega)) (by omega) (by omega), ?_⟩
          intro z21 e21 z22 e22
          have v21 : gI z21 34 = gI z 34 := by rw [e21]; exact v20
          have i22 : (gI z21 34 + (1 : Int32)).toInt = (v : Int) + 1 := by rw [v21]; exact a_add hv rfl (by omega) (by omega)
          have t21 : TM z21 := by rw [e21]; exact Ty_wR (by rw [e20]; exact Ty_wR (by rw [e19]; exact Ty_wR (by rw [e18]; exact Ty_wR t16 trivial) trivial) trivial) trivial
          have d22 : Same [34] [24] z16 z22 := ((((Same.rf.r (by decide) e18).r (by decide) e19).r (by decide) e20).r (by decide) e21).i (by decide) e22
          refine hk z22 (by rw [e22]; exact Ty_wI t21 (show 0 ≤ (gI z21 34 + (1 : Int32)).toInt ∧ (gI z21 34 + (1 : Int32)).toInt ≤ 20 by omega)) (s16.tr d22 (by decide) (by decide)) ?_
          rw [hR]
          refine ⟨b42 n16 d22 (by decide), SM_same x16 d22 (by rw [e22, e21, e20, e19, e18]; rfl) (by decide) (by decide) (by decide) (by decide) (by decide), k16, by rw [e22]; exact i22, (d22.1 41 (by decide)).trans v16.2⟩
        · refine hK15 a b z16 ⟨fun c => absurd c n16, fun _ => hk z16 t16 s16 ?_⟩
          rw [hR]; exact ⟨n16, f16⟩
      have v7 : gI z7 34 = gI z 34 ∧ gI z7 41 = gI z 41 := ⟨s7.1 34 (by decide), s7.1 41 (by decide)⟩
      rcases hs3 with ⟨q, u0⟩ | ⟨q, u0, u1⟩ | ⟨q, u0, u1, u2⟩ | ⟨q, u0, u1, u2⟩
      · -- quiet
        subst q
        have hR : pR tp L t = pQ tp L (n1 tp L t) := by unfold pR; rw [pIf_t u0]
        refine ⟨fun q => absurd rfl q, fun _ => hK10 _ ?_⟩
        refine v_X9_number _ z7 _ t7 tp L _ x7 k1 b7 3 rfl (by decide) (by decide) (fun ok1 r12 z11 hr12 t11 s11 x11 => ?_) (fun no1 r12 z11 t11 s11 n11 f11 => ?_)
        · have s11' : Same QQI QQF z z11 := s7'.tr s11 (by decide) (by decide)
          have b11 : gI z11 42 = 0 := b42 b7 s11 (by decide)
          have v11 : gI z11 34 = gI z 34 ∧ gI z11 41 = gI z 41 := vv2 s11 v7 (by decide) (by decide)
          intro K15 hK15
          have G := good r12 K15 hK15
          refine ⟨fun q => absurd rfl q, fun _ => ?_⟩
          refine v_X9_isWord3 z11 _ tp L _ x11 k2 (fun w3 => ?_) (fun w3 => ?_)
          · refine v_X9_must _ z11 _ t11 tp L _ x11 k2 b11 (fun _ z40 t40 s40 x40 => ?_) (fun q => absurd q (by decide))
            have s40' : Same QQI QQF z z40 := s11'.tr s40 (by decide) (by decide)
            have b40 : gI z40 42 = 0 := b42 b11 s40 (by decide)
            have v40 : gI z40 34 = gI z 34 ∧ gI z40 41 = gI z 41 := vv2 s40 v11 (by decide) (by decide)
            refine v_X9_number _ z40 _ t40 tp L _ x40 k3 b40 23 rfl (by decide) (by decide) (fun ok2 r43 z42 hr43 t42 s42 x42 => ?_) (fun no2 r43 z42 t42 s42 n42 f42 => ?_)
            · have s42' : Same QQI QQF z z42 := s40'.tr s42 (by decide) (by decide)
              have b42' : gI z42 42 = 0 := b42 b40 s42 (by decide)
              have v42 : gI z42 34 = gI z 34 ∧ gI z42 41 = gI z 41 := vv2 s42 v40 (by decide) (by decide)
              refine v_X9_isWord4 z42 _ tp L _ x42 k4 (fun w4 => ?_) (fun w4 => ?_)
              · refine v_X9_must _ z42 _ t42 tp L _ x42 k4 b42' (fun _ z46 t46 s46 x46 => ?_) (fun q => absurd q (by decide))
                have s46' : Same QQI QQF z z46 := s42'.tr s46 (by decide) (by decide)
                have b46 : gI z46 42 = 0 := b42 b42' s46 (by decide)
                have v46 : gI z46 34 = gI z 34 ∧ gI z46 41 = gI z 41 := vv2 s46 v42 (by decide) (by decide)
                refine v_X9_number _ z46 _ t46 tp L _ x46 k5 b46 23 rfl (by decide) (by decide) (fun ok3 r49 z48 hr49 t48 s48 x48 => ?_) (fun no3 r49 z48 t48 s48 n48 f48 => ?_)
                · refine G.1 _ _ z48 ((n1 tp L (n1 tp L (n1 tp L (n1 tp L (n1 tp L (n1 tp L t)))))), ((0 : Int), nC tp L (n1 tp L t), nC tp L (n1 tp L (n1 tp L (n1 tp L t))), nC tp L (n1 tp L (n1 tp L (n1 tp L (n1 tp L (n1 tp L t))))))) t48 (s46'.tr s48 (by decide) (by decide)) (b42 b46 s48 (by decide)) (vv2 s48 v46 (by decide) (by decide)) x48 k6 ?_
                  rw [hR]; unfold pQ; rw [pIf_t ok1, pIf_t w3, pIf_t ok2, pIf_t w4, pIf_t ok3]
                · refine G.2 _ _ z48 _ t48 (s46'.tr s48 (by decide) (by decide)) n48 f48 ?_
                  rw [hR]; unfold pQ; rw [pIf_t ok1, pIf_t w3, pIf_t ok2, pIf_t w4, pIf_f no3]
              · refine v_X9_must _ z42 _ t42 tp L _ x42 k4 b42' (fun q => absurd rfl q) (fun _ z46 t46 s46 n46 f46 => ?_)
                refine mb_number _ _ _ n46 (fun r49 => G.2 _ _ z46 _ t46 (s42'.tr s46 (by decide) (by decide)) n46 f46 ?_)
                rw [hR]; unfold pQ; rw [pIf_t ok1, pIf_t w3, pIf_t ok2, pIf_f w4]
            · refine s_X9_isWord _ _ _ _ _ _ _ _ t42 (fun r45 _ => mb_must _ _ _ n42 (mb_number _ _ _ n42 (fun r49 => G.2 _ _ z42 _ t42 (s40'.tr s42 (by decide) (by decide)) n42 f42 ?_)))
              rw [hR]; unfold pQ; rw [pIf_t ok1, pIf_t w3, pIf_f no2]
          · refine v_X9_must _ z11 _ t11 tp L _ x11 k2 b11 (fun q => absurd rfl q) (fun _ z40 t40 s40 n40 f40 => ?_)
            refine mb_number _ _ _ n40 (fun r43 => s_X9_isWord _ _ _ _ _ _ _ _ t40 (fun r45 _ => mb_must _ _ _ n40 (mb_number _ _ _ n40 (fun r49 => G.2 _ _ z40 _ t40 (s11'.tr s40 (by decide) (by decide)) n40 f40 ?_))))
            rw [hR]; unfold pQ; rw [pIf_t ok1, pIf_f w3]
        · have s11' : Same QQI QQF z z11 := s7'.tr s11 (by decide) (by decide)
          intro K15 hK15
          have G := good r12 K15 hK15
          refine ⟨fun q => absurd rfl q, fun _ => ?_⟩
          refine s_X9_isWord _ _ _ _ _ _ _ _ t11 (fun r39 _ => mb_must _ _ _ n11 (mb_number _ _ _ n11 (fun r43 => ?_)))
          refine s_X9_isWord _ _ _ _ _ _ _ _ t11 (fun r45 _ => mb_must _ _ _ n11 (mb_number _ _ _ n11 (fun r49 => G.2 _ _ z11 _ t11 s11' n11 f11 ?_)))
          rw [hR]; unfold pQ; rw [pIf_f no1]
      · -- dear
        subst q
        have hR : pR tp L t = pD tp L (n1 tp L t) := by unfold pR; rw [pIf_f u0, pIf_t u1]
        refine ⟨fun _ => ⟨fun q => absurd rfl q, fun _ => hK10 _ ?_⟩, fun q => absurd q (by decide)⟩
        refine v_X9_number _ z7 _ t7 tp L _ x7 k1 b7 10000 rfl (by decide) (by decide) (fun ok1 r12 z11 hr12 t11 s11 x11 => ?_) (fun no1 r12 z11 t11 s11 n11 f11 => ?_)
        · intro K15 hK15
          have G := good r12 K15 hK15
          refine ⟨fun _ => ⟨fun _ => ?_, fun q => absurd q (by decide)⟩, fun q => absurd q (by decide)⟩
          refine G.1 _ _ z11 ((n1 tp L (n1 tp L t)), ((1 : Int), nC tp L (n1 tp L t), (0 : Int), (0 : Int))) t11 (s7'.tr s11 (by decide) (by decide)) (b42 b7 s11 (by decide)) (vv2 s11 v7 (by decide) (by decide)) x11 k2 ?_
          rw [hR]; unfold pD; rw [pIf_t ok1]
        · intro K15 hK15
          have G := good r12 K15 hK15
          refine ⟨fun _ => ⟨fun _ => ?_, fun q => absurd q (by decide)⟩, fun q => absurd q (by decide)⟩
          refine G.2 _ _ z11 _ t11 (s7'.tr s11 (by decide) (by decide)) n11 f11 ?_
          rw [hR]; unfold pD; rw [pIf_f no1]
      · -- before
        subst q
        have hR : pR tp L t = pB tp L (n1 tp L t) := by unfold pR; rw [pIf_f u0, pIf_f u1, pIf_t u2]
        refine ⟨fun _ => ⟨fun _ => hK10 _ ?_, fun q => absurd q (by decide)⟩, fun q => absurd q (by decide)⟩
        refine v_X9_number _ z7 _ t7 tp L _ x7 k1 b7 15 rfl (by decide) (by decide) (fun ok1 r12 z11 hr12 t11 s11 x11 => ?_) (fun no1 r12 z11 t11 s11 n11 f11 => ?_)
        · have s11' : Same QQI QQF z z11 := s7'.tr s11 (by decide) (by decide)
          have b11 : gI z11 42 = 0 := b42 b7 s11 (by decide)
          have v11 : gI z11 34 = gI z 34 ∧ gI z11 41 = gI z 41 := vv2 s11 v7 (by decide) (by decide)
          intro K15 hK15
          have G := good r12 K15 hK15
          refine ⟨fun _ => ⟨fun q => absurd rfl q, fun _ => ?_⟩, fun q => absurd q (by decide)⟩
          refine v_X9_isWord5 z11 _ tp L _ x11 k2 (fun w5 => ?_) (fun w5 => ?_)
          · refine v_X9_must _ z11 _ t11 tp L _ x11 k2 b11 (fun _ z27 t27 s27 x27 => ?_) (fun q => absurd q (by decide))
            have s27' : Same QQI QQF z z27 := s11'.tr s27 (by decide) (by decide)
            have b27 : gI z27 42 = 0 := b42 b11 s27 (by decide)
            have v27 : gI z27 34 = gI z 34 ∧ gI z27 41 = gI z 41 := vv2 s27 v11 (by decide) (by decide)
            have hw := num_ok (m := 15) k3 x27.2.2.2.2.2 (by decide) (by decide)
            have hso := x27.2.2.2.2.1
            intro x29 _ K31 hK31
            have hbad : ¬ (okN tp L (n1 tp L (n1 tp L (n1 tp L t))) 15 ∧ nC tp L (n1 tp L (n1 tp L (n1 tp L t))) ≠ nC tp L (n1 tp L t)) → K31 0 := by
              intro no
              refine hK31 0 (v_X9_must _ z27 _ t27 tp L _ x27 k3 b27 (fun q => absurd rfl q) (fun _ z32 t32 s32 n32 f32 => ?_))
              refine G.2 _ _ z32 _ t32 (s27'.tr s32 (by decide) (by decide)) n32 f32 ?_
              rw [hR]; unfold pB; rw [pIf_t ok1, pIf_t w5, pIf_f no]
            intro K34 hK34
            refine ⟨fun c => hK34 (hbad (fun q => c (toI_inj (by rw [hso]; exact (hw.1.mpr q.1).1)))), fun c => ⟨fun cl => hK34 (hbad (fun q => ?_)), fun cl => ⟨fun ce => hK34 (hbad (fun q => ?_)), fun ce => ?_⟩⟩⟩
            · have h1 := lgc_gt.mp cl
              have h2 := (hw.1.mpr q.1).2
              rw [show (15 : Int64).toInt = 15 from rfl] at h1
              omega
            · have h1 := lgc0.mp ce
              rw [show (Int32.toInt64 r12).toInt = r12.toInt from a_wide rfl, hr12, hw.2 q.1] at h1
              exact q.2 h1
            · have cl' : ¬ (15 : Int64).toInt < (gJ z27 40).toInt := fun q => cl (lgc_gt.mpr q)
              rw [show (15 : Int64).toInt = 15 from rfl] at cl'
              have ok2 : okN tp L (n1 tp L (n1 tp L (n1 tp L t))) 15 := hw.1.mp ⟨by rw [← hso, c]; rfl, by omega⟩
              have hne : nC tp L (n1 tp L (n1 tp L (n1 tp L t))) ≠ nC tp L (n1 tp L t) := fun q => ce (lgc0.mpr (by rw [hw.2 ok2, show (Int32.toInt64 r12).toInt = r12.toInt from a_wide rfl, hr12, q]))
              refine hK31 1 (v_X9_must _ z27 _ t27 tp L _ x27 k3 b27 (fun _ z32 t32 s32 x32 => ?_) (fun q => absurd q (by decide)))
              refine G.1 _ _ z32 ((n1 tp L (n1 tp L (n1 tp L (n1 tp L t)))), ((2 : Int), nC tp L (n1 tp L t), nC tp L (n1 tp L (n1 tp L (n1 tp L t))), (0 : Int))) t32 (s27'.tr s32 (by decide) (by decide)) (b42 b27 s32 (by decide)) (vv2 s32 v27 (by decide) (by decide)) x32 k4 ?_
              rw [hR]; unfold pB; rw [pIf_t ok1, pIf_t w5, pIf_t ⟨ok2, hne⟩]
          · refine v_X9_must _ z11 _ t11 tp L _ x11 k2 b11 (fun q => absurd rfl q) (fun _ z27 t27 s27 n27 f27 => ?_)
            have hf : ∀ a b, K15 a b z27 := fun a b => G.2 a b z27 _ t27 (s11'.tr s27 (by decide) (by decide)) n27 f27 (by rw [hR]; unfold pB; rw [pIf_t ok1, pIf_f w5])
            intro x29 _ K31 hK31
            have h31 : ∀ s, K31 s := fun s => hK31 s (mb_must _ _ _ n27 (hf _ _))
            intro K34 hK34
            exact ⟨fun _ => hK34 (h31 _), fun _ => ⟨fun _ => hK34 (h31 _), fun _ => ⟨fun _ => hK34 (h31 _), fun _ => h31 _⟩⟩⟩
        · intro K15 hK15
          have G := good r12 K15 hK15
          have hf : ∀ a b, K15 a b z11 := fun a b => G.2 a b z11 _ t11 (s7'.tr s11 (by decide) (by decide)) n11 f11 (by rw [hR]; unfold pB; rw [pIf_f no1])
          refine ⟨fun _ => ⟨fun q => absurd rfl q, fun _ => ?_⟩, fun q => absurd q (by decide)⟩
          refine s_X9_isWord _ _ _ _ _ _ _ _ t11 (fun r26 _ => mb_must _ _ _ n11 ?_)
          intro x29 _ K31 hK31
          have h31 : ∀ s, K31 s := fun s => hK31 s (mb_must _ _ _ n11 (hf _ _))
          intro K34 hK34
          exact ⟨fun _ => hK34 (h31 _), fun _ => ⟨fun _ => hK34 (h31 _), fun _ => ⟨fun _ => hK34 (h31 _), fun _ => h31 _⟩⟩⟩
      · exact absurd (Int32.lt_iff_toInt_lt.mpr (by rw [q, wm, w0]; decide)) c
  refine v_X9_isWord0 z _ tp L t hs tk (fun u0 => ?_) (fun u0 => ?_)
  · intro K4 hK4
    exact ⟨fun q => absurd q (by decide), fun _ => main K4 hK4 0 (Or.inl ⟨rfl, u0⟩)⟩
  · intro K4 hK4
    refine ⟨fun _ => ?_, fun q => absurd rfl q⟩
    refine v_X9_isWord1 z _ tp L t hs tk (fun u1 => ?_) (fun u1 => ?_)
    · exact ⟨fun q => absurd q (by decide), fun _ => main K4 hK4 1 (Or.inr (Or.inl ⟨rfl, u0, u1⟩))⟩
    · refine ⟨fun _ => ?_, fun q => absurd rfl q⟩
      refine v_X9_isWord2 z _ tp L t hs tk (fun u2 => ?_) (fun u2 => ?_)
      · exact ⟨fun q => absurd q (by decide), fun _ => main K4 hK4 2 (Or.inr (Or.inr (Or.inl ⟨rfl, u0, u1, u2⟩)))⟩
      · exact ⟨fun _ => main K4 hK4 (-1) (Or.inr (Or.inr (Or.inr ⟨rfl, u0, u1, u2⟩))), fun q => absurd rfl q⟩
