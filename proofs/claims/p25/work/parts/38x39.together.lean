-- ALL AT ONCE, the class
set_option maxHeartbeats 8000000 in
theorem v_X2_planTogether (z zm : St) (P : Int32 → St → Prop) (st bg : Nat → Int32) (oj : Nat → Nat) (n : Nat) (ht : TX z) (hrx : RX z) (cp : CP z zm st bg) (h3 : ∀ o : Nat, (o : Int) < (gI zm 12).toInt → st o = 0 ∨ st o = 1 ∨ st o = 2) (tm : TM zm) (rm : RM zm) (bb : BB zm) (plb : PLB zm st bg) (hoj : ojC st (gI zm 12).toNatClampNeg = (n, oj)) (h5 : n ≤ 5) (hk1 : ∀ (z2 : St) (pb : Nat → Nat), TX z2 → RX z2 → Same FPI FPF z z2 → Best zm (op0 st) bg oj n (cP zm oj pb) → (gJ z2 2214).toInt = coF zm oj (cP zm oj pb) n → CP z2 zm (pS (op0 st) oj n) (pG bg oj (cP zm oj pb) n) → P 1 z2) (hk0 : ∀ z2 : St, TX z2 → RX z2 → Same FPI FPF z z2 → (∀ c, ¬ FeP zm (op0 st) bg oj n c) → CP z2 zm st bg → P 0 z2) : wp_X2_planTogether z P := by
  have f12 : 0 ≤ (gI zm 12).toInt ∧ (gI zm 12).toInt ≤ 16 := tm.1 12
  have c12 := clampN f12.1
  have e00 : (0 : Int32).toInt = 0 := rfl
  have em1 : (-1 : Int32).toInt = -1 := rfl
  have e1 : (1 : Int32).toInt = 1 := rfl
  have hok : n ≤ (gI zm 12).toNatClampNeg ∧ Rise oj n ∧ ∀ i, i < n → oj i < (gI zm 12).toNatClampNeg ∧ ¬ st (oj i) = 2 := by
    have h := ojC_ok st (gI zm 12).toNatClampNeg
    rw [hoj] at h
    exact h
  have hall : ∀ o : Nat, (o : Int) < (gI zm 12).toInt → st o = rS st oj n o := by
    intro o ho
    have h := rS_all st (gI zm 12).toNatClampNeg o (by omega)
    rw [hoj] at h
    exact h.symm
  have hst : ∀ i, i < n → op0 st (oj i) = 0 := by
    intro i hi
    have hoi := hok.2.2 i hi
    unfold op0
    rcases h3 (oj i) (by omega) with q | q | q
    · rw [q]; exact if_neg (by decide)
    · rw [q]; exact if_pos rfl
    · exact absurd q hoi.2
  have hne : ∀ i, i < n → ∀ l, l < i → oj l ≠ oj i := fun i hi l hl => by
    have := hok.2.1 l i hl hi
    omega
  have en : EN zm (op0 st) bg oj n := by
    refine ⟨tm, bb, cp.1.2.2.2.2, fun o ho hs => plb o ho (fun q => hs ?_), hok.2.1, h5, fun k hk => ⟨?_, hst k hk⟩, fun j t hj => (ct_eq (t := t) tm bb.2 cp hj).2, rm⟩
    · unfold op0
      rw [q]; exact if_neg (by decide)
    · have := (hok.2.2 k hk).1
      omega
  unfold wp_X2_planTogether
  refine v_X6_clear z _ ht (fun z1 t1 s1 n1 r25 r30 r29 => ?_)
  have ti1 : TI z zm st bg 0 z1 := by
    have e0 : (ojC st 0).1 = 0 := rfl
    refine ⟨t1, RX_same hrx s1 (by decide) (by decide) (by decide) (by decide) (by decide) (by decide), Same.tr (z1 := z) Same.rf s1 (by decide) (by decide), CP_co (CP_st cp s1 (by decide) (by decide)) (fun o _ => opK_ge (by omega)), by rw [e0]; exact n1, fun i hi => by omega, ⟨r25, r30, r29⟩, fun o _ => by rw [s1.2 20 (by decide)]⟩
  intro K4 hK4
  have L1 : ∀ (f : Nat) (v3 : Int32) (z5 : St), TI z zm st bg v3.toNatClampNeg z5 → 0 ≤ v3.toInt → v3.toInt ≤ (gI zm 12).toInt → (16 - v3.toInt).toNat < f → K4 v3 z5 := by
    intro f
    induction f with
    | zero => intro v3 z5 _ _ _ q; omega
    | succ f ih =>
      intro v3 z5 ti g0 g1 gm
      have cv := clampN g0
      have r1308 : gI z5 1308 = gI zm 12 := ti.2.2.2.1.1.1.1
      refine hK4 v3 z5 ⟨fun c => ?_, fun c => ?_⟩
      · rw [r1308] at c
        have c' := i_le rfl rfl c
        have ev : v3.toNatClampNeg = (gI zm 12).toNatClampNeg := by omega
        rw [ev] at ti
        have cp5 := TI_end tm ti
        obtain ⟨t5, x5, s5, _, n5, r5, ⟨z25, z30, z29⟩, _⟩ := ti
        rw [hoj] at n5 r5
        have ts5 : TS z zm st bg oj n z5 := ⟨t5, x5, s5, cp5, n5, r5⟩
        intro K8 hK8
        have L2 : ∀ (m i : Nat) (v7 : Int32) (z9 : St), TS z zm st bg oj n z9 → v7.toInt = (i : Int) → i ≤ n → (∀ k, k < i → SDi z9 zm (op0 st) bg oj k 24) → (∀ k, i ≤ k → k < 5 → gF z9 25 k = 0 ∧ gF z9 30 k = 0) → (∀ x, x < 600 → gF z9 29 x = 0) → n - i < m → K8 v7 z9 := by
          intro m
          induction m with
          | zero => intro i v7 z9 _ _ _ _ _ _ q; omega
          | succ m ih2 =>
            intro i v7 z9 ts9 hv7 hi sd9 ze9 y29 gm2
            obtain ⟨t9, x9, s9, cp9, n9, rw9⟩ := id ts9
            refine hK8 v7 z9 ⟨fun c2 => ?_, fun c2 => ?_⟩
            · have c2' := i_le n9 hv7 c2
              have ei : i = n := by omega
              rw [ei] at sd9
              refine v_X6_prepare z9 zm _ (op0 st) bg oj n en t9 cp9 ⟨n9, fun k hk => (rw9 k hk).1, sd9⟩ y29 (fun r12 z11 s11 ws11 gd11 hr12 => ?_)
              have ts11 : TS z zm st bg oj n z11 := TS_mv ts9 ws11.1 s11 (CP_st cp9 s11 (by decide) (by decide)) (by decide) (by decide) (by decide) (by decide) (by decide)
              intro K14 hK14
              -- found
              have hyes : ∀ (z15 : St) (pb : Nat → Nat), TS z zm st bg oj n z15 → Best zm (op0 st) bg oj n (cP zm oj pb) → (gJ z15 2214).toInt = coF zm oj (cP zm oj pb) n → (∀ k, k < n → pb k < 24 ∧ gF z15 33 k = nI (pb k)) → K14 1 z15 := by
                intro z15 pb ts15 best co15 r33
                obtain ⟨t15, x15, s15, cp15, n15, rw15⟩ := id ts15
                refine hK14 1 z15 ?_
                intro K17 hK17
                have L3 : ∀ (m i : Nat) (v16 : Int32) (z18 : St), TX z18 → RX z18 → Same [] [10, 12, 19, 20] z15 z18 → z18.2.2 = z15.2.2 → CP z18 zm (pS (op0 st) oj i) (pG bg oj (cP zm oj pb) i) → v16.toInt = (i : Int) → i ≤ n → n - i < m → K17 v16 z18 := by
                  intro m
                  induction m with
                  | zero => intro i v16 z18 _ _ _ _ _ _ _ q; omega
                  | succ m ih3 =>
                    intro i v16 z18 t18 x18 s18 l18 cp18 hv16 hi gm3
                    have cv16 : v16.toNatClampNeg = i := by
                      have := clampN (x := v16) (by omega)
                      omega
                    have n18 : (gI z18 2213).toInt = (n : Int) := by rw [s18.1 2213 (by decide)]; exact n15
                    refine hK17 v16 z18 ⟨fun c => ⟨Or.inr rfl, ?_⟩, fun c => ?_⟩
                    · have c' := i_le n18 hv16 c
                      have ei : i = n := by omega
                      rw [ei] at cp18
                      refine hk1 z18 pb t18 x18 (s15.tr s18 (by decide) (by decide)) best ?_ cp18
                      have ej : gJ z18 2214 = gJ z15 2214 := by
                        show z18.2.2.1 2214 = z15.2.2.1 2214
                        rw [l18]
                      rw [ej]; exact co15
                    · have c' := i_nle n18 hv16 c
                      have hin : i < n := by omega
                      have hoi := hok.2.2 i hin
                      have hv5 : vp_in v16 5 := vin hv16 (by omega) (by omega)
                      refine ⟨hv5, ?_⟩
                      rw [cv16, s18.2 23 (by decide), (rw15 i hin).1]
                      intro x20 e20
                      have i20 : x20.toInt = ((oj i : Nat) : Int) := by rw [e20, nI_toInt (by omega)]
                      have c20 : x20.toNatClampNeg = oj i := by rw [e20, nI_clamp (by omega)]
                      intro K22 hK22
                      refine ⟨fun q => absurd q (by decide), fun _ => ⟨vin i20 (by omega) (by omega), hv5, ?_⟩⟩
                      have f7 : 0 ≤ (gF zm 7 (oj i)).toInt ∧ (gF zm 7 (oj i)).toInt ≤ 167 := tm.2 7 _
                      have f8 : 0 ≤ (gF zm 8 (oj i)).toInt ∧ (gF zm 8 (oj i)).toInt ≤ 167 := tm.2 8 _
                      have c7 := clampN f7.1
                      have hp24 := (r33 i hin).1
                      have q15 : gF z18 15 = gF zm 7 := cp18.1.2.1.2.1
                      have q17 : gF z18 17 = gF zm 9 := cp18.1.2.1.2.2.2.1
                      have ecp : gF zm 7 (oj i) + nI (pb i) = cP zm oj pb i := by
                        refine toI_inj ?_
                        rw [a_add rfl (nI_toInt (by omega)) (by omega) (by omega)]
                        unfold cP Fi
                        rw [nI_toInt (by omega)]
                        omega
                      rw [c20, s18.2 33 (by decide), (r33 i hin).2, q15, ecp]
                      have hb := best.1 i hin
                      have b1 := hb.2.1
                      have b2 := hb.2.2.1
                      have b3 := hb.2.2.2.1
                      refine hK22 _ ?_
                      intro K23 hK23
                      refine ⟨fun q => ?_, fun _ => ?_⟩
                      · rw [q] at b1
                        omega
                      · refine v_X1_planL x20 _ z18 _ t18 x18 cp18.2.2.2.1 (by omega) (by omega) (by rw [cp18.1.1.1]; omega) (by rw [c20, q17]; exact b3) (by rw [c20, cp18.2.2.2.2.1 _ (by omega), pS_out i (hne i hin)]; exact hst i hin) (fun z27 t27 x27 p27 s27 l27 a19 a20 => ?_)
                        rw [c20] at a19 a20
                        refine hK23 z27 (fun x25 e25 => ?_)
                        have i25 : x25.toInt = (i : Int) + 1 := by rw [e25]; exact a_add hv16 e1 (by omega) (by omega)
                        refine ih3 (i + 1) x25 z27 t27 x27 (s18.tr s27 (by decide) (by decide)) (l27.trans l18) (CP_mv cp18 s27 p27 (fun o ho => ?_) (fun o ho hs => ?_)) (by omega) (by omega) (by omega)
                        · rw [a19]
                          show _ = upd (pS (op0 st) oj i) (oj i) 1 o
                          by_cases e : o = oj i
                          · rw [e, upd_at, upd_at]
                          · rw [upd_ne e, upd_ne e]; exact cp18.2.2.2.2.1 o ho
                        · rw [a20]
                          show _ = upd (pG bg oj (cP zm oj pb) i) (oj i) (cP zm oj pb i) o
                          by_cases e : o = oj i
                          · rw [e, upd_at, upd_at]
                          · rw [upd_ne e, upd_ne e]
                            have hs' : ¬ upd (pS (op0 st) oj i) (oj i) 1 o = 0 := hs
                            rw [upd_ne e] at hs'
                            exact cp18.2.2.2.2.2 o ho hs'
                exact L3 (n + 1) 0 0 z15 t15 x15 Same.rf rfl cp15 rfl (Nat.zero_le _) (by omega)
              -- not found
              have hno : ∀ z15 : St, TS z zm st bg oj n z15 → (∀ c, ¬ FeP zm (op0 st) bg oj n c) → K14 0 z15 := by
                intro z15 ts15 none
                obtain ⟨t15, x15, s15, cp15, n15, rw15⟩ := id ts15
                refine hK14 0 z15 ?_
                intro K17 hK17
                have L3 : ∀ (m i : Nat) (v16 : Int32) (z18 : St), TX z18 → RX z18 → Same [] [10, 12, 19, 20] z15 z18 → CP z18 zm (rS st oj i) bg → v16.toInt = (i : Int) → i ≤ n → n - i < m → K17 v16 z18 := by
                  intro m
                  induction m with
                  | zero => intro i v16 z18 _ _ _ _ _ _ q; omega
                  | succ m ih3 =>
                    intro i v16 z18 t18 x18 s18 cp18 hv16 hi gm3
                    have cv16 : v16.toNatClampNeg = i := by
                      have := clampN (x := v16) (by omega)
                      omega
                    have n18 : (gI z18 2213).toInt = (n : Int) := by rw [s18.1 2213 (by decide)]; exact n15
                    refine hK17 v16 z18 ⟨fun c => ⟨Or.inl rfl, ?_⟩, fun c => ?_⟩
                    · have c' := i_le n18 hv16 c
                      have ei : i = n := by omega
                      rw [ei] at cp18
                      exact hk0 z18 t18 x18 (s15.tr s18 (by decide) (by decide)) none (CP_co cp18 hall)
                    · have c' := i_nle n18 hv16 c
                      have hin : i < n := by omega
                      have hoi := hok.2.2 i hin
                      have hv5 : vp_in v16 5 := vin hv16 (by omega) (by omega)
                      refine ⟨hv5, ?_⟩
                      rw [cv16, s18.2 23 (by decide), (rw15 i hin).1]
                      intro x20 e20
                      have i20 : x20.toInt = ((oj i : Nat) : Int) := by rw [e20, nI_toInt (by omega)]
                      have c20 : x20.toNatClampNeg = oj i := by rw [e20, nI_clamp (by omega)]
                      intro K22 hK22
                      refine ⟨fun _ => ⟨hv5, ?_⟩, fun q => absurd rfl q⟩
                      rw [s18.2 24 (by decide), (rw15 i hin).2]
                      refine hK22 _ ?_
                      intro K23 hK23
                      have nx : ∀ z24 : St, TX z24 → RX z24 → Same [] [10, 12, 19, 20] z15 z24 → CP z24 zm (rS st oj (i + 1)) bg → K23 z24 := by
                        intro z24 t24 x24 s24 cp24
                        refine hK23 z24 (fun x25 e25 => ?_)
                        have i25 : x25.toInt = (i : Int) + 1 := by rw [e25]; exact a_add hv16 e1 (by omega) (by omega)
                        exact ih3 (i + 1) x25 z24 t24 x24 s24 cp24 (by omega) (by omega) (by omega)
                      have hz : gF z 19 (oj i) = st (oj i) := cp.2.2.2.2.1 _ (by omega)
                      have f20 : -1 ≤ (gF z 20 (oj i)).toInt ∧ (gF z 20 (oj i)).toInt ≤ 167 := ht.2 20 _
                      have q17 : gF z18 17 = gF z 17 := cp18.1.2.1.2.2.2.1.trans cp.1.2.1.2.2.2.1.symm
                      refine ⟨fun q => ?_, fun q => ?_⟩
                      · have h0 : st (oj i) = 0 := by
                          rcases hrx.1 (oj i) with r | r
                          · rw [hz] at r; exact toI_inj r
                          · rw [q] at r; omega
                        refine nx z18 t18 x18 s18 (CP_co cp18 (fun o _ => ?_))
                        show upd (rS st oj i) (oj i) (st (oj i)) o = rS st oj i o
                        by_cases e : o = oj i
                        · rw [e, upd_at, rS_out i (hne i hin), hst i hin, h0]
                        · rw [upd_ne e]
                      · have h1 : st (oj i) = 1 := by
                          rcases h3 (oj i) (by omega) with a | a | a
                          · refine absurd (toI_inj ?_) q
                            rw [hrx.2.2.2 (oj i) (by rw [cp.1.1.1]; omega) (by rw [hz, a]; rfl)]
                            rfl
                          · exact a
                          · exact absurd a hoi.2
                        have r : 0 ≤ (gF z 20 (oj i)).toInt ∧ (gF z 20 (oj i)).toInt + (gF z 17 (oj i)).toInt ≤ 168 := by
                          rcases hrx.1 (oj i) with r | r
                          · rw [hz, h1] at r; exact absurd r (by decide)
                          · exact r
                        refine v_X1_plan x20 _ z18 _ t18 x18 cp18.2.2.2.1 (by omega) (by omega) (by rw [cp18.1.1.1]; omega) (by rw [c20, q17]; exact r.2) (by rw [c20, cp18.2.2.2.2.1 _ (by omega), rS_out i (hne i hin)]; exact hst i hin) (fun z27 t27 x27 p27 s27 a19 a20 => ?_)
                        rw [c20] at a19 a20
                        refine nx z27 t27 x27 (s18.tr s27 (by decide) (by decide)) (CP_mv cp18 s27 p27 (fun o ho => ?_) (fun o ho hs => ?_))
                        · rw [a19]
                          show _ = upd (rS st oj i) (oj i) (st (oj i)) o
                          by_cases e : o = oj i
                          · rw [e, upd_at, upd_at, h1]
                          · rw [upd_ne e, upd_ne e]; exact cp18.2.2.2.2.1 o ho
                        · rw [a20]
                          by_cases e : o = oj i
                          · rw [e, upd_at]
                            exact cp.2.2.2.2.2 _ (by omega) (by rw [h1]; decide)
                          · rw [upd_ne e]
                            have hs' : ¬ upd (rS st oj i) (oj i) (st (oj i)) o = 0 := hs
                            rw [upd_ne e] at hs'
                            exact cp18.2.2.2.2.2 o ho hs'
                exact L3 (n + 1) 0 0 z15 t15 x15 Same.rf cp15 rfl (Nat.zero_le _) (by omega)
              intro K30 hK30
              have h30 : ∀ z31 : St, TS z zm st bg oj n z31 → (∀ pc, ¬ FeB zm (op0 st) bg oj n pc) → K30 z31 := by
                intro z31 ts31 no
                refine hK30 z31 (hno z31 ts31 (fun c hc => ?_))
                obtain ⟨pc, hpc, _⟩ := FeP_B tm rm hc
                exact no pc hpc
              rcases hr12 with ⟨er, hnz, h31⟩ | ⟨er, hnone⟩
              · refine ⟨fun q => absurd (er.symm.trans q) (by decide), fun _ => ?_⟩
                refine v_X6_walkTwice z11 zm _ (op0 st) bg oj n en ws11 gd11 hnz h31 (CP_pe tm ts11.2.2.2.1) (fun z33 pb tw best co r33 => ⟨fun q => absurd q (by decide), fun _ => hyes z33 pb (TS_mv ts11 tw.1 tw.2.1 (CP_tw ts11.2.2.2.1 tw) (by decide) (by decide) (by decide) (by decide) (by decide)) best co r33⟩) (fun z33 tw none => ⟨fun _ => h30 z33 (TS_mv ts11 tw.1 tw.2.1 (CP_tw ts11.2.2.2.1 tw) (by decide) (by decide) (by decide) (by decide) (by decide)) none, fun q => absurd rfl q⟩)
              · exact ⟨fun _ => h30 z11 ts11 hnone, fun q => absurd er q⟩
            · have c2' := i_nle n9 hv7 c2
              have hin : i < n := by omega
              have hoi := hok.2.2 i hin
              have ev7 : v7 = nI i := toI_inj (by rw [hv7, nI_toInt (by omega)])
              have ze := ze9 i (Nat.le_refl _) (by omega)
              refine v_X2_offerHours v7 z9 zm _ (op0 st) bg oj i t9 tm rm bb.2 cp9 ev7 (by omega) (by omega) (hst i hin) (rw9 i hin).1 (SDi_0 ze.1 ze.2) (fun z36 t36 s36 sd36 o36 x36 => ?_)
              intro x38 e38
              have i38 : x38.toInt = (i : Int) + 1 := by rw [e38]; exact a_add hv7 e1 (by omega) (by omega)
              refine ih2 (i + 1) x38 z36 (TS_mv ts9 t36 s36 (CP_st cp9 s36 (by decide) (by decide)) (by decide) (by decide) (by decide) (by decide) (by decide)) (by omega) (by omega) (fun k hk => ?_) (fun k h1 h2 => ?_) (fun x hx => ?_) (by omega)
              · by_cases e : k = i
                · rw [e]; exact sd36
                · exact SDi_out (sd9 k (by omega)) (o36 k e).1 (o36 k e).2 (fun x h1 h2 => x36 x (by omega))
              · rw [(o36 k (by omega)).1, (o36 k (by omega)).2]
                exact ze9 k (by omega) h2
              · rw [s36.2 29 (by decide)]; exact y29 x hx
        exact L2 (n + 1) 0 0 z5 ts5 rfl (Nat.zero_le _) (fun k hk => absurd hk (Nat.not_lt_zero _)) (fun k _ h => ⟨z25 k h, z30 k (by omega)⟩) z29 (by omega)
      · rw [r1308] at c
        have c' := i_nle rfl rfl c
        have hv16 : vp_in v3 16 := vin rfl g0 (by omega)
        have cp5 := ti.2.2.2.1
        have h19 : gF z5 19 v3.toNatClampNeg = st v3.toNatClampNeg := by rw [cp5.2.2.2.2.1 _ (by omega), opK_ge (by omega)]
        refine ⟨hv16, ?_⟩
        rw [h19]
        intro K39 hK39
        have next : ∀ z40 : St, TI z zm st bg (v3.toNatClampNeg + 1) z40 → K39 z40 := by
          intro z40 ti40
          refine hK39 z40 (fun x41 e41 => ?_)
          have i41 : x41.toInt = v3.toInt + 1 := by rw [e41]; exact a_add rfl e1 (by omega) (by omega)
          have c41 := clampN (x := x41) (by omega)
          exact ih x41 z40 (by rw [show x41.toNatClampNeg = v3.toNatClampNeg + 1 by omega]; exact ti40) (by omega) (by omega) (by omega)
        refine ⟨fun h2 => next z5 (TI_skip ti h2), fun h2 => ⟨hv16, ?_⟩⟩
        have hlt : (ojC st v3.toNatClampNeg).1 < 5 := by
          have hm := ojC_mono st (v3.toNatClampNeg + 1) ((gI zm 12).toNatClampNeg - (v3.toNatClampNeg + 1))
          rw [show v3.toNatClampNeg + 1 + ((gI zm 12).toNatClampNeg - (v3.toNatClampNeg + 1)) = (gI zm 12).toNatClampNeg by omega, hoj] at hm
          have hm' : (ojC st (v3.toNatClampNeg + 1)).1 ≤ n := hm
          have e : (ojC st (v3.toNatClampNeg + 1)).1 = (ojC st v3.toNatClampNeg).1 + 1 := by rw [ojC_n h2]
          omega
        have f20 : -1 ≤ (gF z5 20 v3.toNatClampNeg).toInt ∧ (gF z5 20 v3.toNatClampNeg).toInt ≤ 167 := ti.1.2 20 _
        refine v_X6_addJob v3 _ z5 _ (ojC st v3.toNatClampNeg).1 ti.1 (by omega) f20 ti.2.2.2.2.1 hlt (fun z43 t43 s43 n43 g23 g24 => ?_)
        have cp43 : CP z43 zm (opK st (v3.toNatClampNeg : Int)) bg := CP_st cp5 s43 (by decide) (by decide)
        have x43 : RX z43 := RX_same ti.2.1 s43 (by decide) (by decide) (by decide) (by decide) (by decide) (by decide)
        have ev3 : v3 = nI v3.toNatClampNeg := nI_cl g0
        have g23' : ∀ j : Nat, gF z43 23 j = if j = (ojC st v3.toNatClampNeg).1 then nI v3.toNatClampNeg else gF z5 23 j := fun j => by rw [← ev3]; exact g23 j
        have h19' : gF z43 19 v3.toNatClampNeg = st v3.toNatClampNeg := by rw [s43.2 19 (by decide)]; exact h19
        refine v_X1_reopen v3 z43 _ t43 x43 cp43.2.2.2.1 (by omega) (by rw [cp43.1.1.1]; exact c') (fun hn1 => ?_) (fun hp1 z45 t45 x45 p45 s45 a19 a20 => ?_)
        · rw [h19'] at hn1
          exact next z43 (TI_add ti h2 s43 n43 g23' g24 Same.rf t43 x43 (by rw [opK_sk hn1]; exact cp43) (fun o _ => rfl))
        · rw [h19'] at hp1
          refine next z45 (TI_add ti h2 s43 n43 g23' g24 s45 t45 x45 (CP_mv cp43 s45 p45 (fun o ho => ?_) (fun o ho hs => ?_)) (fun o ho => ?_))
          · rw [a19]
            by_cases e : o = v3.toNatClampNeg
            · rw [e, upd_at, opK_lt (by omega)]
              unfold op0
              rw [if_pos hp1]
            · rw [upd_ne e, cp43.2.2.2.2.1 o ho]
              by_cases e2 : (o : Int) < (v3.toNatClampNeg : Int)
              · rw [opK_lt e2, opK_lt (by omega)]
              · rw [opK_ge e2, opK_ge (by omega)]
          · rw [a20]
            by_cases e : o = v3.toNatClampNeg
            · rw [e, opK_lt (by omega)] at hs
              unfold op0 at hs
              rw [if_pos hp1] at hs
              exact absurd rfl hs
            · rw [upd_ne e]
              refine cp43.2.2.2.2.2 o ho ?_
              by_cases e2 : (o : Int) < (v3.toNatClampNeg : Int)
              · rw [opK_lt e2]; rw [opK_lt (by omega)] at hs; exact hs
              · rw [opK_ge e2]; rw [opK_ge (by omega)] at hs; exact hs
          · rw [a20, upd_ne (by omega)]
  exact L1 17 0 z1 ti1 (by decide) f12.1 (by rw [e00]; decide)
theorem ojC_cnt (st : Nat → Int32) : ∀ m, (ojC st m).1 + cnt st 2 m = m := by
  intro m
  induction m with
  | zero => rfl
  | succ m ih =>
    by_cases c : st m = 2
    · rw [ojC_y c]
      show (ojC st m).1 + (cnt st 2 m + (if st m = 2 then 1 else 0)) = m + 1
      rw [if_pos c]
      omega
    · rw [ojC_n c]
      show (ojC st m).1 + 1 + (cnt st 2 m + (if st m = 2 then 1 else 0)) = m + 1
      rw [if_neg c]
      omega
set_option maxHeartbeats 1000000 in
theorem v_X8_whole (z zm : St) (P : Int64 → St → Prop) (st bg : Nat → Int32) (ht : TX z) (hrx : RX z) (cp : CP z zm st bg) (h3 : ∀ o : Nat, (o : Int) < (gI zm 12).toInt → st o = 0 ∨ st o = 1 ∨ st o = 2) (tm : TM zm) (rm : RM zm) (bb : BB zm) (plb : PLB zm st bg) (hk : ∀ (r : Int64) (z2 : St) (st' bg' : Nat → Int32), TX z2 → RX z2 → Same [8, 2213, 2216] FPF z z2 → CP z2 zm st' bg' → WO9 zm st bg (gI zm 12).toNatClampNeg r st' bg' → P r z2) : wp_X8_whole z P := by
  have f12 : 0 ≤ (gI zm 12).toInt ∧ (gI zm 12).toInt ≤ 16 := tm.1 12
  have c12 := clampN f12.1
  have hc := ojC_cnt st (gI zm 12).toNatClampNeg
  unfold WO9 at hk
  rcases hoj : ojC st (gI zm 12).toNatClampNeg with ⟨n, oj⟩
  rw [hoj] at hc hk
  have hc' : n + cnt st 2 (gI zm 12).toNatClampNeg = (gI zm 12).toNatClampNeg := hc
  unfold wp_X8_whole
  refine v_X1_inState _ _ _ ht (fun r2 hr2 => ?_)
  rw [cp.1.1.1, cnt_co _ (fun o ho => cp.2.2.2.2.1 o (by omega))] at hr2
  have hd : (gI z 1308 - r2).toInt = (gI zm 12).toInt - (cnt st 2 (gI zm 12).toNatClampNeg : Int) := by
    rw [cp.1.1.1]
    exact a_sub rfl hr2 (by omega) (by omega)
  have keep : ∀ (za zb : St) (v : Int32), TX za → RX za → Same [8, 2213, 2216] FPF z za → zb = wI za 8 v → TX zb ∧ RX zb ∧ Same [8, 2213, 2216] FPF z zb ∧ ∀ st' bg' : Nat → Int32, CP za zm st' bg' → CP zb zm st' bg' := by
    intro za zb v ta xa sa eb
    have sb : Same [8] [] za zb := Same.rf.i (by decide) eb
    exact ⟨by rw [eb]; exact Ty_wI ta trivial, RX_same xa sb (by decide) (by decide) (by decide) (by decide) (by decide) (by decide), sa.i (by decide) eb, fun st' bg' h => CP_st h sb (by decide) (by decide)⟩
  refine ⟨fun c => ?_, fun c => ?_⟩
  · have c' := i_le (q := 5) hd rfl c
    refine v_X2_planTogether z zm _ st bg oj n ht hrx cp h3 tm rm bb plb hoj (by omega) (fun z4 pb t4 x4 s4 best co cp4 => ⟨fun _ => ?_, fun q => absurd q (by decide)⟩) (fun z4 t4 x4 s4 none cp4 => ⟨fun q => absurd rfl q, fun _ => ?_⟩)
    · unfold wp_X8_accept
      intro z7 e7
      have s4' : Same [8, 2213, 2216] FPF z z4 := Same.tr (z1 := z) Same.rf s4 (by decide) (by decide)
      obtain ⟨k1, k2, k3, k4⟩ := keep z4 z7 _ t4 x4 s4' e7
      refine hk _ z7 _ _ k1 k2 k3 (k4 _ _ cp4) (Or.inr (Or.inr ⟨by show n ≤ 5; omega, cP zm oj pb, best, ?_, rfl, rfl⟩))
      rw [e7]; exact co
    · unfold wp_X8_refuse
      intro z7 e7
      have s4' : Same [8, 2213, 2216] FPF z z4 := Same.tr (z1 := z) Same.rf s4 (by decide) (by decide)
      obtain ⟨k1, k2, k3, k4⟩ := keep z4 z7 _ t4 x4 s4' e7
      exact hk _ z7 st bg k1 k2 k3 (k4 _ _ cp4) (Or.inr (Or.inl ⟨by show n ≤ 5; omega, none, by decide, rfl, rfl⟩))
  · have c' := i_nle (q := 5) hd rfl c
    unfold wp_X8_refuse
    intro z7 e7
    obtain ⟨k1, k2, k3, k4⟩ := keep z z7 _ ht hrx Same.rf e7
    exact hk _ z7 st bg k1 k2 k3 (k4 _ _ cp) (Or.inl ⟨by show 5 < n; omega, by decide, rfl, rfl⟩)
theorem WO9_uniq {zm : St} {st bg : Nat → Int32} {nj : Nat} {r r' : Int64} {st1 bg1 st2 bg2 : Nat → Int32} (h : WO9 zm st bg nj r st1 bg1) (h' : WO9 zm st bg nj r' st2 bg2) : r = r' ∧ st1 = st2 ∧ bg1 = bg2 := by
  rcases h with ⟨a, b, c, d⟩ | ⟨a, b, c, d, e⟩ | ⟨a, p, b, c, d, e⟩ <;> rcases h' with ⟨a', b', c', d'⟩ | ⟨a', b', c', d', e'⟩ | ⟨a', p', b', c', d', e'⟩
  · exact ⟨b.trans b'.symm, c.trans c'.symm, d.trans d'.symm⟩
  · omega
  · omega
  · omega
  · exact ⟨c.trans c'.symm, d.trans d'.symm, e.trans e'.symm⟩
  · exact absurd b'.1 (b p')
  · omega
  · exact absurd b.1 (b' p)
  · have u := Best_uniq b b'
    refine ⟨Int64.toInt_inj.mp ?_, d.trans d'.symm, e.trans (Eq.trans ?_ e'.symm)⟩
    · rw [c, c', coF_co _ u]
    · exact pG_co _ u
