-- THE WALK finds the cheapest, or the first of the cheapest
set_option maxHeartbeats 4000000 in
theorem v_X6_walk (zm : St) (st bg : Nat → Int32) (oj : Nat → Nat) (n : Nat) (Fq : Nat → Nat → Prop) (en : EN zm st bg oj n) (hq1 : ∀ j p, j < n → Fq j p → p < 24 ∧ OFF zm st bg oj j p) (hq2 : ∀ pc, FeB zm st bg oj n pc → ∀ j, j < n → Fq j (pc j)) : ∀ (m : Nat) (b1 : Int32) (b2 : Int64) (z : St) (P : St → Prop) (lv : Nat) (pc : Nat → Nat), b1 = nI lv → lv ≤ n → 6 ≤ lv + m → WS z zm st bg oj n → WI z zm st bg oj n Fq lv pc → b2.toInt = coF zm oj (cP zm oj pc) lv → (∀ z2 : St, FRM z z2 lv → PW zm oj n z z2 (AX zm st bg oj n lv pc) → P z2) → wp_X6_walk m b1 b2 z P := by
  obtain ⟨tm, bb, hh, pb, hr, h5, ho, bd, rm⟩ := id en
  have cbd : ∀ (c : Nat → Int32) (k : Nat), k ≤ n → -1000000000 ≤ coF zm oj c k ∧ coF zm oj c k ≤ 1000000000 := by
    intro c k hk
    have := coF_bd (oj := oj) (c := c) bd k (fun k' hk' => (ho k' (by omega)).1)
    omega
  intro m
  induction m with
  | zero => intro b1 b2 z P lv pc _ hlv hm; omega
  | succ m ih =>
    intro b1 b2 z P lv pc e1 hlv hm ws wi hb2 hk
    obtain ⟨ht, hn, se, hjs, hft⟩ := id ws
    have i1 : b1.toInt = (lv : Int) := by rw [e1, nI_toInt (by omega)]
    have c1 : b1.toNatClampNeg = lv := by rw [e1, nI_clamp (by omega)]
    unfold wp_X6_walk
    intro K1 hK1
    have hend : lv = n → K1 := by
      intro el
      have same : ∀ pc', AX zm st bg oj n lv pc pc' → coF zm oj (cP zm oj pc') n = coF zm oj (cP zm oj pc) lv := by
        intro pc' hA
        rw [el]
        exact coF_co n (fun l hl => cP_co (hA.2 l (by omega)))
      refine hK1 ?_
      unfold wp_X6_keepWay
      refine ⟨fun c => ?_, fun c => ⟨by decide, ?_⟩⟩
      · have c' := lgc_ge c
        refine hk z (FRM_rf ht) (Or.inl ⟨rfl, rfl, fun _ _ => rfl, fun pc' hA => ?_⟩)
        rw [same pc' hA]
        omega
      · have c' := lgc_nge c
        intro z2 e2 z3 e3
        have t2 : TX z2 := by rw [e2]; exact Ty_wRf ht (fun i => by unfold va_cpy; split; exact ht.2 32 _; exact ht.2 33 _)
        have t3 : TX z3 := by rw [e3]; exact Ty_wJ t2
        have s2 : Same [] [10, 12, 30, 32, 33] z z2 := Same.rf.r (by decide) e2
        have s3 : Same [] [10, 12, 30, 32, 33] z z3 := s2.j e3
        have r33 : ∀ k, k < n → gF z3 33 k = nI (pc k) := by
          intro k hk'
          rw [e3, e2]
          show va_cpy (gF z 32) (gF z 33) 0 0 5 k = _
          unfold va_cpy
          rw [if_pos ⟨by omega, by omega⟩, Nat.sub_zero, Nat.zero_add]
          exact (wi.2.2.1 k (by omega)).2
        have hA : AX zm st bg oj n lv pc pc := ⟨⟨fun k hk' => (wi.2.2.1 k (by omega)).1, by rw [← el]; exact wi.2.2.2.2⟩, fun _ _ => rfl⟩
        have eco : coF zm oj (cP zm oj pc) n = b2.toInt := by rw [hb2, el]
        have frm : ∀ (z5 : St) (v : Int64), z5 = wJ z3 2215 v → FRM z z5 lv := by
          intro z5 v e5
          refine ⟨by rw [e5]; exact Ty_wJ t3, s3.j e5, ?_, fun x _ => ?_, fun x _ => ?_, fun l _ => ?_, fun h t _ _ => ?_, fun t _ => ?_⟩
          · rw [e5, e3, e2]; rfl
          · rw [e5, e3, e2]; rfl
          · rw [e5, e3, e2]; rfl
          · rw [e5, e3, e2]; rfl
          · rw [e5, e3, e2]; rfl
          · rw [e5, e3, e2]; rfl
        have g16 : gI z3 2216 = gI z 2216 := s3.1 2216 (by decide)
        rw [g16]
        refine ⟨fun c0 => ?_, fun c0 => ?_⟩
        · intro z5 e5
          refine hk z5 (frm z5 _ e5) (Or.inr ⟨pc, hA, by omega, ?_, fun k hk' => ?_, Or.inl ⟨c0, ?_, fun pc' hA' => ?_⟩⟩)
          · rw [eco, e5, e3]; rfl
          · rw [e5]; exact r33 k hk'
          · rw [e5, e3]; rfl
          · rw [same pc' hA', ← hb2, eco]
            exact Int.le_refl _
        · intro z5 e5
          refine hk z5 (frm z5 _ e5) (Or.inr ⟨pc, hA, by omega, ?_, fun k hk' => ?_, Or.inr ⟨c0, ?_, fun pc' hA' _ hl => ?_⟩⟩)
          · rw [eco, e5, e3]; rfl
          · rw [e5]; exact r33 k hk'
          · rw [e5]; rfl
          · obtain ⟨k, k1, k2, k3⟩ := hl
            rw [cP_co (hA'.2 k (by omega))] at k3
            omega
    refine ⟨fun c => hend ?_, fun c => ⟨fun c5 => ?_, fun c5 => hend ?_⟩⟩
    · have := i_le hn i1 c
      omega
    · have hlt : lv < n := by
        have := i_nle hn i1 c
        omega
      have m5 : (b1 * (5 : Int32)).toInt = (lv : Int) * 5 := a_mul i1 (show (5 : Int32).toInt = 5 from rfl) (by omega) (by omega)
      have m24 : (b1 * (24 : Int32)).toInt = (lv : Int) * 24 := a_mul i1 (show (24 : Int32).toInt = 24 from rfl) (by omega) (by omega)
      have ix : (b1 * (5 : Int32) + b1).toInt = (lv : Int) * 5 + (lv : Int) := a_add m5 i1 (by omega) (by omega)
      have cx := clampN (x := b1 * (5 : Int32) + b1) (by omega)
      have ex : (b1 * (5 : Int32) + b1).toNatClampNeg = 5 * lv + lv := by omega
      have u1 : (1 : Int32).toInt = 1 := rfl
      have ib : (b1 + (1 : Int32)).toInt = (lv : Int) + 1 := a_add i1 u1 (by omega) (by omega)
      have cb1 := clampN (x := b1 + (1 : Int32)) (by omega)
      have eb1 : (b1 + (1 : Int32)).toNatClampNeg = lv + 1 := by omega
      have eb1' : b1 + (1 : Int32) = nI (lv + 1) := toI_inj (by rw [ib, nI_toInt (by omega)]; omega)
      have hv5 : vp_in b1 5 := vin i1 (by omega) (by omega)
      refine ⟨vin ix (by omega) (by omega), ?_⟩
      rw [ex, c1, eb1]
      intro x6 e6
      refine ⟨vin i1 (by omega) (by omega), ?_⟩
      refine v_X6_leastOf b1 x6 z _ lv ht e1 (by omega) ?_
      intro x9 e9 K11 hK11
      have lob : ∀ j, lv ≤ j → j < n → -200000000 ≤ (loV z j (gF z 30 (5 * lv + j))).toInt ∧ (loV z j (gF z 30 (5 * lv + j))).toInt ≤ 200000000 := fun j h1 h2 => lo_bd (hjs j h2).2 (ho j h2).1 bd (wi.1 j h1 h2).1 (fun p hp hb => hq1 j p h2 (((wi.1 j h1 h2).2 p hp).mp hb).1)
      have hs := sL_int (f := fun j => loV z j (gF z 30 (5 * lv + j))) (a := lv) (n - lv) (by omega) (fun j h1 h2 => lob j h1 (by omega))
      have hs1 := sL_int (f := fun j => loV z j (gF z 30 (5 * lv + j))) (a := lv + 1) (n - (lv + 1)) (by omega) (fun j h1 h2 => lob j (by omega) (by omega))
      have i9 : x9.toInt = sR (fun j => (loV z j (gF z 30 (5 * lv + j))).toInt) (lv + 1) (n - (lv + 1)) := by
        have b0 := lob lv (Nat.le_refl _) hlt
        have h1 := hs.1
        rw [← wi.2.1, show n - lv = (n - (lv + 1)) + 1 by omega, sR_1] at h1
        have h2 : (loV z lv x6).toInt = (loV z lv (gF z 30 (5 * lv + lv))).toInt := by rw [e6]
        rw [e9, a_subL h1 h2 (by omega) (by omega)]
        omega
      obtain ⟨R, hR0, hR1⟩ : ∃ R : Nat → Int32, (gI z 2216 = 0 → R = gF z 27) ∧ (¬ gI z 2216 = 0 → R = gF z 26) := by
        by_cases e : gI z 2216 = 0
        · exact ⟨gF z 27, fun _ => rfl, fun q => absurd e q⟩
        · exact ⟨gF z 26, fun q => absurd q e, fun _ => rfl⟩
      obtain ⟨a0, a1, a2, a3, a4, a5, a6, a7⟩ := (hjs lv hlt).2
      have hRa : ∀ a : Nat, (a : Int) < (gF z 25 lv).toInt → ∃ p, p < 24 ∧ OFF zm st bg oj lv p ∧ R (24 * lv + a) = nI p := by
        by_cases e : gI z 2216 = 0
        · rw [hR0 e]; exact a4
        · rw [hR1 e]; exact a1
      have hRb : ∀ p, p < 24 → OFF zm st bg oj lv p → ∃ a : Nat, (a : Int) < (gF z 25 lv).toInt ∧ R (24 * lv + a) = nI p := by
        by_cases e : gI z 2216 = 0
        · rw [hR0 e]; exact a5
        · rw [hR1 e]; exact a2
      have inj : ∀ p q : Nat, p < 24 → q < 24 → nI p = nI q → p = q := by
        intro p q hp hq h
        have q1 : (nI p).toInt = (p : Int) := nI_toInt (by omega)
        have q2 : (nI q).toInt = (q : Int) := nI_toInt (by omega)
        rw [h] at q1
        omega
      have LL : ∀ (d : Nat) (v10 : Int32) (z12 : St), FRM z z12 lv → 0 ≤ v10.toInt → v10.toInt ≤ 24 → PW zm oj n z z12 (fun pc' => AX zm st bg oj n lv pc pc' ∧ ∃ a : Nat, (a : Int) < v10.toInt ∧ R (24 * lv + a) = nI (pc' lv)) → (24 - v10.toInt).toNat < d → K11 v10 z12 := by
        intro d
        induction d with
        | zero => intro v10 z12 _ _ _ _ q; omega
        | succ d ihd =>
          intro v10 z12 fr12 g0 g1 pw gm
          have cv := clampN g0
          have ws12 : WS z12 zm st bg oj n := WS_mv ws fr12.1 fr12.2.1 fr12.2.2.1 (by decide) (by decide)
          have wi12 : WI z12 zm st bg oj n Fq lv pc := WI_mv wi fr12 h5
          have r25 : gF z12 25 = gF z 25 := fr12.2.1.2 25 (by decide)
          have r16 : gI z12 2216 = gI z 2216 := fr12.2.1.1 2216 (by decide)
          refine hK11 v10 z12 ⟨hv5, fun cc => ?_, fun cc => ?_⟩
          · rw [r25] at cc
            have cc' := i_le rfl rfl cc
            refine hk z12 fr12 (PW_iff pw (fun pc' => ⟨fun h => h.1, fun h => ⟨h, ?_⟩⟩))
            obtain ⟨a, ha1, ha2⟩ := hRb (pc' lv) (h.1.1 lv hlt) ((FeB_mp en h.1).1 lv hlt)
            exact ⟨a, by omega, ha2⟩
          · rw [r25] at cc
            have cc' := i_nle rfl rfl cc
            obtain ⟨p, hp, hof, hRp⟩ := hRa v10.toNatClampNeg (by omega)
            have iv : (b1 * (24 : Int32) + v10).toInt = (lv : Int) * 24 + v10.toInt := a_add m24 rfl (by omega) (by omega)
            have cxv := clampN (x := b1 * (24 : Int32) + v10) (by omega)
            have exv : (b1 * (24 : Int32) + v10).toNatClampNeg = 24 * lv + v10.toNatClampNeg := by omega
            have hxv : vp_in (b1 * (24 : Int32) + v10) 120 := vin iv (by omega) (by omega)
            have ip : (nI p).toInt = (p : Int) := nI_toInt (by omega)
            have ixp : (b1 * (24 : Int32) + nI p).toInt = (lv : Int) * 24 + (p : Int) := a_add m24 ip (by omega) (by omega)
            have cxp := clampN (x := b1 * (24 : Int32) + nI p) (by omega)
            have exp : (b1 * (24 : Int32) + nI p).toNatClampNeg = 24 * lv + p := by omega
            intro K15 hK15
            have h15 : K15 (nI p) := by
              refine hK15 (nI p) ⟨vin ixp (by omega) (by omega), ?_⟩
              rw [exp, fr12.2.2.1, a7 p hp hof]
              intro x16 e16 K17 hK17
              have bct := bd (oj lv) (Fi zm oj lv + p) (ho lv hlt).1
              have bco := cbd (cP zm oj pc) lv hlv
              have agr : ∀ pc', AX zm st bg oj n (lv + 1) (uP pc lv p) pc' → (∀ l, l < lv → pc' l = pc l) ∧ pc' lv = p := by
                intro pc' hA
                refine ⟨fun l hl => ?_, ?_⟩
                · rw [hA.2 l (by omega), uP_ne (by omega)]
                · rw [hA.2 lv (by omega), uP_at]
              have i16 : x16.toInt = coF zm oj (cP zm oj (uP pc lv p)) (lv + 1) := by
                rw [e16, a_addL hb2 rfl (by omega) (by omega)]
                show _ = coF zm oj (cP zm oj (uP pc lv p)) lv + (ctM zm (oj lv) (cP zm oj (uP pc lv p) lv).toNatClampNeg).toInt
                rw [cP_c tm (by rw [uP_at]; exact hp), uP_at, coF_co lv (fun l hl => cP_co (uP_ne (by omega)))]
              have eco : ∀ pc', AX zm st bg oj n (lv + 1) (uP pc lv p) pc' → coF zm oj (cP zm oj pc') (lv + 1) = x16.toInt := by
                intro pc' hA
                rw [i16]
                exact coF_co (lv + 1) (fun l hl => cP_co (hA.2 l hl))
              have b16 := cbd (cP zm oj (uP pc lv p)) (lv + 1) (by omega)
              have hnext : ∀ z18 : St, FRM z z18 lv → PW zm oj n z12 z18 (AX zm st bg oj n (lv + 1) (uP pc lv p)) → K17 z18 := by
                intro z18 fr18 pw18
                refine hK17 z18 (fun x19 e19 => ?_)
                have i19 : x19.toInt = v10.toInt + 1 := by rw [e19]; exact a_add rfl u1 (by omega) (by omega)
                refine ihd x19 z18 fr18 (by omega) (by omega) (PW_iff (PW_tr (fun pc' _ => (cbd (cP zm oj pc') n (Nat.le_refl _)).1) pw pw18 r16 (fun hm1 pb' hb' pc' hA => ?_)) (fun pc' => ?_)) (by omega)
                · rintro ⟨k, k1, k2, k3⟩
                  obtain ⟨g1', g2'⟩ := agr pc' hA
                  obtain ⟨hax, a, ha1, ha2⟩ := hb'
                  have hr1 := hR1 hm1
                  have hlt' := a3 a v10.toNatClampNeg (by omega) (by omega)
                  rw [← hr1, ha2, hRp, ip, nI_toInt (by have := hax.1.1 lv hlt; omega)] at hlt'
                  have h24p := hax.1.1 lv hlt
                  by_cases ek : k < lv
                  · rw [cP_co (g1' k ek), cP_co (hax.2 k ek)] at k3
                    omega
                  · by_cases ek2 : k = lv
                    · rw [ek2, cP_i tm (by rw [g2']; exact hp), cP_i tm h24p, g2'] at k3
                      unfold pl at k3
                      omega
                    · have k4 := k2 lv (by omega)
                      have k5 : (cP zm oj pc' lv).toInt = (cP zm oj pb' lv).toInt := by rw [k4]
                      rw [cP_i tm (by rw [g2']; exact hp), cP_i tm h24p, g2'] at k5
                      unfold pl at k5
                      omega
                · constructor
                  · rintro (⟨h1, a, h2, h3⟩ | hA)
                    · exact ⟨h1, a, by omega, h3⟩
                    · obtain ⟨g1', g2'⟩ := agr pc' hA
                      exact ⟨⟨hA.1, g1'⟩, v10.toNatClampNeg, by omega, by rw [g2']; exact hRp⟩
                  · rintro ⟨h1, a, h2, h3⟩
                    by_cases e : a = v10.toNatClampNeg
                    · right
                      rw [e, hRp] at h3
                      have h4 := inj p (pc' lv) hp (h1.1.1 lv hlt) h3
                      refine ⟨h1.1, fun l hl => ?_⟩
                      by_cases el : l = lv
                      · rw [el, uP_at]; exact h4.symm
                      · rw [uP_ne el]; exact h1.2 l (by omega)
                    · left
                      exact ⟨h1, a, by omega, h3⟩
              have skip : (∀ pc', AX zm st bg oj n (lv + 1) (uP pc lv p) pc' → (gJ z12 2215).toInt ≤ coF zm oj (cP zm oj pc') n) → K17 z12 := fun h => hnext z12 fr12 (Or.inl ⟨rfl, rfl, fun _ _ => rfl, h⟩)
              have inb : ∀ pc', AX zm st bg oj n (lv + 1) (uP pc lv p) pc' → ∀ j, lv ≤ j → j < n → bt (gF z 30 (5 * lv + j)) (nI (pc' j)) := by
                intro pc' hA j h1 h2
                have h24 := hA.1.1 j h2
                refine ((wi.1 j h1 h2).2 (pc' j) (by omega)).mpr ⟨hq2 pc' hA.1 j h2, fun l hl => ?_⟩
                have := (FeB_mp en hA.1).2 l j (by omega) h2
                rw [(agr pc' hA).1 l hl] at this
                exact this
              refine ⟨fun cb0 => skip (fun pc' hA => ?_), fun cb0 => ⟨fun cl => skip (fun pc' hA => ?_), fun cl => ?_⟩⟩
              · have := inb pc' hA lv (Nat.le_refl _) hlt
                rw [(agr pc' hA).2, ← e6] at this
                exact absurd cb0 this
              · have cl' := lgc_ge cl
                rw [a_addL rfl i9 (by omega) (by omega)] at cl'
                have low := co_low (oj := oj) (pc := pc') (n := n) (a := lv + 1) (f := fun j => (loV z j (gF z 30 (5 * lv + j))).toInt) tm hA.1.1 (n - (lv + 1)) (by omega) (fun j h1 h2 => (loV_le (hjs j (by omega)).2 (ho j (by omega)).1 bd).1 (pc' j) (hA.1.1 j (by omega)) ((FeB_mp en hA.1).1 j (by omega)) (inb pc' hA j (by omega) (by omega)))
                rw [eco pc' hA, show lv + 1 + (n - (lv + 1)) = n by omega] at low
                omega
              · refine v_X6_narrow b1 (nI p) z12 _ lv p n fr12.1 e1 rfl hp ws12.2.1 h5 hlt (fun z22 nf22 hrow hsum => ?_) (fun z22 nf22 hno => ?_)
                · have fr22 : FRM z12 z22 lv := NF_FRM nf22
                  have g22 : ∀ k, gJ z22 k = gJ z12 k := nf22.2.2.2.1
                  have r33 : ∀ k, k < n → gF z22 33 k = gF z12 33 k := fun k _ => by rw [nf22.2.1.2 33 (by decide)]
                  -- the bits of the next level
                  have bits : ∀ j, lv + 1 ≤ j → j < n → ¬ aN z12 lv p j = 0 ∧ ∀ q, q < 32 → (bt (aN z12 lv p j) (nI q) ↔ Fq j q ∧ ∀ l, l < lv + 1 → MP zm st bg oj l j (uP pc lv p l) q) := by
                    intro j h1 h2
                    refine ⟨(hrow j (by omega) h2).2, fun q hq => ?_⟩
                    unfold aN
                    rw [bt_and hq, (wi12.1 j (by omega) h2).2 q hq]
                    constructor
                    · rintro ⟨⟨g1', g2'⟩, g3'⟩
                      have q24 := (hq1 j q h2 g1').1
                      refine ⟨g1', fun l hl => ?_⟩
                      by_cases el : l = lv
                      · rw [el, uP_at]
                        exact ((ws12.2.2.2.2 lv j (by omega) h2) p q hp q24).1.mp g3'
                      · rw [uP_ne el]; exact g2' l (by omega)
                    · rintro ⟨g1', g2'⟩
                      have q24 := (hq1 j q h2 g1').1
                      refine ⟨⟨g1', fun l hl => ?_⟩, ?_⟩
                      · have := g2' l (by omega)
                        rw [uP_ne (by omega)] at this
                        exact this
                      · have := g2' lv (by omega)
                        rw [uP_at] at this
                        exact ((ws12.2.2.2.2 lv j (by omega) h2) p q hp q24).1.mpr this
                  have lob2 : ∀ j, lv + 1 ≤ j → j < n → -200000000 ≤ (loV z12 j (aN z12 lv p j)).toInt ∧ (loV z12 j (aN z12 lv p j)).toInt ≤ 200000000 := fun j h1 h2 => lo_bd (ws12.2.2.2.1 j h2).2 (ho j h2).1 bd (bits j h1 h2).1 (fun q hq hb => hq1 j q h2 (((bits j h1 h2).2 q hq).mp hb).1)
                  have hs2 := sL_int (f := fun j => loV z12 j (aN z12 lv p j)) (a := lv + 1) (n - (lv + 1)) (by omega) (fun j h1 h2 => lob2 j h1 (by omega))
                  have hs2' := hs2.1
                  rw [← hsum] at hs2'
                  refine ⟨fun _ => ⟨vin ib (by omega) (by omega), fun cl2 => ?_, fun cl2 => ?_⟩, fun q => absurd q (by decide)⟩
                  · have cl2' := lgc_ge cl2
                    rw [g22, a_addL rfl hs2' (by omega) (by omega)] at cl2'
                    refine hnext z22 (FRM_tr fr12 fr22) (Or.inl ⟨g22 _, g22 _, r33, fun pc' hA => ?_⟩)
                    have low := co_low (oj := oj) (pc := pc') (n := n) (a := lv + 1) (f := fun j => (loV z12 j (aN z12 lv p j)).toInt) tm hA.1.1 (n - (lv + 1)) (by omega) (fun j h1 h2 => (loV_le (ws12.2.2.2.1 j (by omega)).2 (ho j (by omega)).1 bd).1 (pc' j) (hA.1.1 j (by omega)) ((FeB_mp en hA.1).1 j (by omega)) (((bits j h1 (by omega)).2 (pc' j) (by have := hA.1.1 j (by omega); omega)).mpr ⟨hq2 pc' hA.1 j (by omega), fun l hl => by rw [← hA.2 l hl]; exact (FeB_mp en hA.1).2 l j (by omega) (by omega)⟩))
                    rw [eco pc' hA, show lv + 1 + (n - (lv + 1)) = n by omega] at low
                    omega
                  · have wi22 : WI z22 zm st bg oj n Fq lv pc := WI_mv wi12 fr22 h5
                    have ws22 : WS z22 zm st bg oj n := WS_mv ws12 fr22.1 fr22.2.1 fr22.2.2.1 (by decide) (by decide)
                    have hb0 : bt (gF z 30 (5 * lv + lv)) (nI p) := by rw [← e6]; exact cb0
                    have hmp := (((wi.1 lv (Nat.le_refl _) hlt).2 p (by omega)).mp hb0).2
                    refine v_X6_step (wp_X6_walk m) b1 (nI p) x16 z22 zm _ st bg oj n lv p pc en ws22 e1 rfl hp hlt (fun l hl => (wi.2.2.1 l hl).1) wi22.2.2.2.1 wi.2.2.2.2 hof (fun l hl => (hmp l hl).2.2) (fun zz Q tz sz lz w32 pez fez hQ => ?_) (fun z26 fr26 pw26 => ?_)
                    · have rz30 : gF zz 30 = gF z22 30 := sz.2 30 (by decide)
                      refine ih (b1 + (1 : Int32)) x16 zz Q (lv + 1) (uP pc lv p) eb1' (by omega) (by omega) (WS_mv ws22 tz sz (G28 lz 28) (by decide) (by decide)) ⟨fun j h1 h2 => ?_, ?_, fun l hl => ?_, pez, fez⟩ i16 hQ
                      · rw [rz30, (hrow j (by omega) h2).1]
                        exact bits j h1 h2
                      · rw [G28 lz 31, hsum]
                        refine sL_co _ (fun j h1 h2 => ?_)
                        have lo1 : loV zz j (gF zz 30 (5 * (lv + 1) + j)) = loV z22 j (gF zz 30 (5 * (lv + 1) + j)) := loV_same sz (by decide) (by decide) (G28 lz 28)
                        have lo2 : ∀ b : Int32, loV z22 j b = loV z12 j b := fun b => loV_same nf22.2.1 (by decide) (by decide) nf22.2.2.1
                        rw [lo1, lo2, rz30, (hrow j (by omega) (by omega)).1]
                      · rw [w32]
                        by_cases el : l = lv
                        · rw [el, uP_at, upd_at]; exact ⟨hp, rfl⟩
                        · rw [uP_ne el, upd_ne el]; exact wi22.2.2.1 l (by omega)
                    · exact hnext z26 (FRM_tr fr12 (FRM_tr fr22 fr26)) (PW_fr pw26 (g22 _) (g22 _) r33 (nf22.2.1.1 2216 (by decide)) rfl rfl (fun _ _ => rfl))
                · refine ⟨fun q => absurd rfl q, fun _ => ?_⟩
                  have g22 : ∀ k, gJ z22 k = gJ z12 k := nf22.2.2.2.1
                  have r33 : ∀ k, k < n → gF z22 33 k = gF z12 33 k := fun k _ => by rw [nf22.2.1.2 33 (by decide)]
                  refine hnext z22 (FRM_tr fr12 (NF_FRM nf22)) (Or.inl ⟨g22 _, g22 _, r33, fun pc' hA => ?_⟩)
                  obtain ⟨j, h1, h2, h3⟩ := hno
                  have h24 := hA.1.1 j h2
                  have b1' : bt (gF z12 30 (5 * lv + j)) (nI (pc' j)) := by
                    rw [fr12.2.2.2.1 (5 * lv + j) (by omega)]
                    exact inb pc' hA j (by omega) h2
                  have b2' := FT_bt en ws12.2.2.2.2 hA.1 hlt h2 (by omega)
                  rw [(agr pc' hA).2] at b2'
                  have b3' := (bt_and (by omega)).mpr ⟨b1', b2'⟩
                  have h3' : gF z12 30 (5 * lv + j) &&& gF z12 29 ((24 * lv + p) * 5 + j) = 0 := h3
                  rw [h3'] at b3'
                  exact absurd b3' bt_no
            rw [r16]
            refine ⟨fun c0 => ⟨hxv, ?_⟩, fun c0 => ⟨hxv, ?_⟩⟩
            · rw [exv, fr12.2.1.2 27 (by decide), ← hR0 c0, hRp]; exact h15
            · rw [exv, fr12.2.1.2 26 (by decide), ← hR1 c0, hRp]; exact h15
      refine LL 25 0 z (FRM_rf ht) (by decide) (by decide) (Or.inl ⟨rfl, rfl, fun _ _ => rfl, fun pc' hA => ?_⟩) (by decide)
      obtain ⟨_, a, ha, _⟩ := hA
      have : (0 : Int32).toInt = 0 := rfl
      omega
    · have := i_nlt i1 (show (5 : Int32).toInt = 5 from rfl) c5
      omega
