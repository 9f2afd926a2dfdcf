-- MAY IT BEGIN, as the reference says it
def FR (z : St) : Prop := ¬ gI z 21 = 0 → ∀ h : Nat, h < 168 → gF z 13 h = PR z (nI h) (gI z 2)
theorem PR_sm {z zz : St} {b1 b2 : Int32} (s : Same [21] [13] z zz) : PR zz b1 b2 = PR z b1 b2 := PR_same s (by decide) (by decide) (by decide) (by decide) (by decide)
set_option maxHeartbeats 1000000 in
theorem v_X9_nowOf (b1 : Int32) (z : St) (P : Int32 → St → Prop) (ht : TM z) (h0 : 0 ≤ b1.toInt ∧ b1.toInt ≤ 167) (fr : FR z) (hk : ∀ z2 : St, TM z2 → Same [21] [13] z z2 → FR z2 → z2.2.2 = z.2.2 → P (PR z b1 (gI z 2)) z2) : wp_X9_nowOf b1 z P := by
  have cb := clampN h0.1
  have f3 : 0 ≤ (gI z 3).toInt ∧ (gI z 3).toInt ≤ 400 := ht.1 3
  have cn3 := clampN f3.1
  have hv : vp_in b1 168 := vin rfl h0.1 (by omega)
  unfold wp_X9_nowOf
  intro K1 hK1
  have h1 : ∀ z2 : St, TM z2 → Same [21] [13] z z2 → z2.2.2 = z.2.2 → (∀ h : Nat, h < 168 → gF z2 13 h = PR z (nI h) (gI z 2)) → K1 z2 := by
    intro z2 t2 s2 l2 hr
    refine hK1 z2 ⟨hv, ?_⟩
    rw [hr b1.toNatClampNeg (by omega), ← nI_cl h0.1]
    refine hk z2 t2 s2 (fun _ h hh => ?_) l2
    rw [hr h hh, PR_sm s2, s2.1 2 (by decide)]
  refine ⟨fun c => h1 z ht Same.rf rfl (fr c), fun c => ?_⟩
  intro K5 hK5
  have L5 : ∀ (n : Nat) (v4 : Int32) (z6 : St), TM z6 → Same [21] [13] z z6 → z6.2.2 = z.2.2 → 0 ≤ v4.toInt → v4.toInt ≤ 168 → (∀ h : Nat, (h : Int) < v4.toInt → gF z6 13 h = gI z 7) → (168 - v4.toInt).toNat < n → K5 v4 z6 := by
    intro n
    induction n with
    | zero => intro v4 z6 _ _ _ _ _ _ q; omega
    | succ n ih =>
      intro v4 z6 t6 s6 l6 g0 g1 hf gm
      have cv := clampN g0
      refine hK5 v4 z6 ⟨fun c => ?_, fun c => ?_⟩
      · have c' := i_le (p := 168) rfl rfl c
        intro K9 hK9
        have L9 : ∀ (m : Nat) (v8 : Int32) (z10 : St), TM z10 → Same [21] [13] z z10 → z10.2.2 = z.2.2 → 0 ≤ v8.toInt → v8.toInt ≤ (gI z 3).toInt → (∀ h : Nat, h < 168 → gF z10 13 h = prF (gF z 1) (gF z 2) (gF z 3) (gI z 7) (nI h) (gI z 2) v8.toNatClampNeg) → (400 - v8.toInt).toNat < m → K9 v8 z10 := by
          intro m
          induction m with
          | zero => intro v8 z10 _ _ _ _ _ _ q; omega
          | succ m ih9 =>
            intro v8 z10 t10 s10 l10 k0 k1 hr km
            have c8 := clampN k0
            have q3 : gI z10 3 = gI z 3 := s10.1 3 (by decide)
            have q2 : gI z10 2 = gI z 2 := s10.1 2 (by decide)
            have r1 : gF z10 1 = gF z 1 := s10.2 1 (by decide)
            have r2 : gF z10 2 = gF z 2 := s10.2 2 (by decide)
            have r3 : gF z10 3 = gF z 3 := s10.2 3 (by decide)
            have f1 : 0 ≤ (gF z 1 v8.toNatClampNeg).toInt ∧ (gF z 1 v8.toNatClampNeg).toInt ≤ 167 := ht.2 1 _
            have cf := clampN f1.1
            refine hK9 v8 z10 ⟨fun cc => ?_, fun cc => ?_⟩
            · have cc' := i_le rfl rfl cc
              rw [q3] at cc'
              intro z12 e12
              refine h1 z12 (by rw [e12]; exact Ty_wI t10 trivial) (s10.i (by decide) e12) (by rw [e12]; exact l10) (fun h hh => ?_)
              rw [e12]
              show gF z10 13 h = _
              rw [hr h hh, show v8.toNatClampNeg = (gI z 3).toNatClampNeg by omega]
            · have cc' := i_nle rfl rfl cc
              rw [q3] at cc'
              have hv8 : vp_in v8 400 := vin rfl k0 (by omega)
              refine ⟨hv8, hv8, ?_⟩
              intro K15 hK15
              have go : ∀ s13 : Int32, s13 = (if gI z 2 < gF z 3 v8.toNatClampNeg then gF z10 13 (gF z 1 v8.toNatClampNeg).toNatClampNeg else gF z 2 v8.toNatClampNeg) → K15 s13 (gF z10 1 v8.toNatClampNeg) := by
                intro s13 hs
                rw [r1]
                refine hK15 s13 _ ⟨vin rfl f1.1 (by omega), ?_⟩
                intro z16 e16 x17 e17
                have i17 : x17.toInt = v8.toInt + 1 := by rw [e17]; exact a_add rfl rfl (by omega) (by omega)
                have c17 := clampN (x := x17) (by omega)
                refine ih9 x17 z16 (by rw [e16]; exact Ty_wR t10 trivial) (s10.r (by decide) e16) (by rw [e16]; exact l10) (by omega) (by omega) (fun h hh => ?_) (by omega)
                rw [show x17.toNatClampNeg = v8.toNatClampNeg + 1 by omega]
                rw [e16, gF_upd]
                show _ = if gF z 1 v8.toNatClampNeg = nI h then (if gI z 2 < gF z 3 v8.toNatClampNeg then prF (gF z 1) (gF z 2) (gF z 3) (gI z 7) (nI h) (gI z 2) v8.toNatClampNeg else gF z 2 v8.toNatClampNeg) else prF (gF z 1) (gF z 2) (gF z 3) (gI z 7) (nI h) (gI z 2) v8.toNatClampNeg
                by_cases e : h = (gF z 1 v8.toNatClampNeg).toNatClampNeg
                · have e2 : gF z 1 v8.toNatClampNeg = nI h := by rw [e]; exact nI_cl f1.1
                  rw [if_pos e, if_pos e2, hs, ← e, hr h hh]
                · have e2 : ¬ gF z 1 v8.toNatClampNeg = nI h := fun q => e (by rw [q, nI_clamp (by omega)])
                  rw [if_neg e, if_neg e2, hr h hh]
              rw [q2, r3, r2]
              refine ⟨fun c1 => ⟨hv8, by rw [r1]; exact vin rfl f1.1 (by omega), go _ ?_⟩, fun c1 => ⟨hv8, go _ ?_⟩⟩
              · rw [if_pos c1, r1]
              · rw [if_neg c1]
        refine L9 _ 0 z6 t6 s6 l6 (by decide) (by have : (0 : Int32).toInt = 0 := rfl; omega) (fun h hh => ?_) (Nat.lt_succ_self _)
        rw [hf h (by omega)]; rfl
      · have c' := i_nle (p := 168) rfl rfl c
        refine ⟨vin rfl g0 (by omega), ?_⟩
        intro z19 e19 x20 e20
        have i20 : x20.toInt = v4.toInt + 1 := by rw [e20]; exact a_add rfl rfl (by omega) (by omega)
        refine ih x20 z19 (by rw [e19]; exact Ty_wR t6 trivial) (s6.r (by decide) e19) (by rw [e19]; exact l6) (by omega) (by omega) (fun h hh => ?_) (by omega)
        rw [e19, gF_upd]
        by_cases e : h = v4.toNatClampNeg
        · rw [if_pos e, s6.1 7 (by decide)]
        · rw [if_neg e]; exact hf h (by omega)
  exact L5 _ 0 z ht Same.rf rfl (by decide) (by decide) (fun h hh => absurd hh (by have : (0 : Int32).toInt = 0 := rfl; omega)) (Nat.lt_succ_self _)
def Dm (z : St) (t : Nat) : Prop := ∃ r : Nat, (r : Int) < (gI z 22).toInt ∧ gF z 14 r = 1 ∧ gF z 15 r < PR z (nI t) (gI z 2)
theorem v_X9_isDear (b1 : Int32) (z : St) (P : Int32 → St → Prop) (ht : TM z) (h0 : 0 ≤ b1.toInt ∧ b1.toInt ≤ 167) (fr : FR z) (hk1 : Dm z b1.toNatClampNeg → ∀ z2 : St, TM z2 → Same [21] [13] z z2 → FR z2 → z2.2.2 = z.2.2 → P 1 z2) (hk0 : ¬ Dm z b1.toNatClampNeg → ∀ z2 : St, TM z2 → Same [21] [13] z z2 → FR z2 → z2.2.2 = z.2.2 → P 0 z2) : wp_X9_isDear b1 z P := by
  have f22 : 0 ≤ (gI z 22).toInt ∧ (gI z 22).toInt ≤ 20 := ht.1 22
  have eb := nI_cl h0.1
  unfold wp_X9_isDear
  intro K3 hK3
  have LL : ∀ (n : Nat) (v1 v2 : Int32) (z4 : St), TM z4 → Same [21] [13] z z4 → FR z4 → z4.2.2 = z.2.2 → 0 ≤ v2.toInt → v2.toInt ≤ 20 → ((v1 = 1 ∧ Dm z b1.toNatClampNeg) ∨ (v1 = 0 ∧ ∀ r : Nat, (r : Int) < v2.toInt → ¬ (gF z 14 r = 1 ∧ gF z 15 r < PR z b1 (gI z 2)))) → (20 - v2.toInt).toNat < n → K3 v1 v2 z4 := by
    intro n
    induction n with
    | zero => intro v1 v2 z4 _ _ _ _ _ _ _ q; omega
    | succ n ih =>
      intro v1 v2 z4 t4 s4 fr4 l4 g0 g1 hv gm
      have cv := clampN g0
      have q22 : gI z4 22 = gI z 22 := s4.1 22 (by decide)
      refine hK3 v1 v2 z4 ⟨fun c => ?_, fun c => ?_⟩
      · have c' := i_le rfl rfl c
        rw [q22] at c'
        rcases hv with ⟨q, hd⟩ | ⟨q, hd⟩
        · exact ⟨Or.inr q, by rw [q]; exact hk1 hd z4 t4 s4 fr4 l4⟩
        · exact ⟨Or.inl q, by rw [q]; exact hk0 (fun ⟨r, h1, h2, h3⟩ => hd r (by omega) ⟨h2, by rw [← eb] at h3; exact h3⟩) z4 t4 s4 fr4 l4⟩
      · have c' := i_nle rfl rfl c
        rw [q22] at c'
        intro K7 hK7
        have h7 : ∀ (s6 : Int32) (z8 : St), TM z8 → Same [21] [13] z z8 → FR z8 → z8.2.2 = z.2.2 → ((s6 = 1 ∧ Dm z b1.toNatClampNeg) ∨ (s6 = 0 ∧ ∀ r : Nat, (r : Int) < v2.toInt + 1 → ¬ (gF z 14 r = 1 ∧ gF z 15 r < PR z b1 (gI z 2)))) → K7 s6 z8 := by
          intro s6 z8 t8 s8 fr8 l8 hs
          refine hK7 s6 z8 (fun x9 e9 => ?_)
          have i9 : x9.toInt = v2.toInt + 1 := by rw [e9]; exact a_add rfl rfl (by omega) (by omega)
          exact ih s6 x9 z8 t8 s8 fr8 l8 (by omega) (by omega) (by rw [i9]; exact hs) (by omega)
        intro K10 hK10
        have h10 : ∀ z11 : St, TM z11 → Same [21] [13] z z11 → FR z11 → z11.2.2 = z.2.2 → Dm z b1.toNatClampNeg → K10 z11 := fun z11 t11 s11 fr11 l11 hd => hK10 z11 (h7 1 z11 t11 s11 fr11 l11 (Or.inl ⟨rfl, hd⟩))
        rcases hv with ⟨q, hd⟩ | ⟨q, hd⟩
        · exact ⟨fun _ => h10 z4 t4 s4 fr4 l4 hd, fun c1 => absurd (q.symm.trans c1) (by decide)⟩
        · refine ⟨fun c1 => absurd q c1, fun _ => ⟨vin rfl g0 (by omega), ?_⟩⟩
          intro K13 hK13
          have h13 : ∀ z14 : St, TM z14 → Same [21] [13] z z14 → FR z14 → z14.2.2 = z.2.2 → ¬ (gF z 14 v2.toNatClampNeg = 1 ∧ gF z 15 v2.toNatClampNeg < PR z b1 (gI z 2)) → K13 z14 := by
            intro z14 t14 s14 fr14 l14 hn
            refine hK13 z14 (h7 0 z14 t14 s14 fr14 l14 (Or.inr ⟨rfl, fun r hr => ?_⟩))
            by_cases e : r = v2.toNatClampNeg
            · rw [e]; exact hn
            · exact hd r (by omega)
          rw [s4.2 14 (by decide)]
          refine ⟨fun c1 => h13 z4 t4 s4 fr4 l4 (fun q' => c1 q'.1), fun c1 => ?_⟩
          refine v_X9_nowOf _ z4 _ t4 h0 fr4 (fun z16 t16 s16 fr16 l16 => ⟨vin rfl g0 (by omega), ?_⟩)
          have s16' : Same [21] [13] z z16 := s4.tr s16 (by decide) (by decide)
          rw [s16'.2 15 (by decide), PR_sm s4, s4.1 2 (by decide)]
          refine ⟨fun c2 => h13 z16 t16 s16' fr16 (l16.trans l4) (fun q' => Int32.not_lt.mpr c2 q'.2), fun c2 => h10 z16 t16 s16' fr16 (l16.trans l4) ⟨v2.toNatClampNeg, by omega, c1, ?_⟩⟩
          rw [← eb]; exact Int32.not_le.mp c2
  exact LL _ 0 0 z ht Same.rf fr rfl (by decide) (by decide) (Or.inr ⟨rfl, fun r hr => absurd hr (by have : (0 : Int32).toInt = 0 := rfl; omega)⟩) (Nat.lt_succ_self _)
def QR (z : St) (home : Int32) (h : Int) (r : Nat) : Prop := gF z 14 r = 0 ∧ gF z 15 r = home ∧ ((gF z 17 r < gF z 16 r ∧ ((gF z 16 r).toInt ≤ h ∨ h ≤ (gF z 17 r).toInt)) ∨ (¬ gF z 17 r < gF z 16 r ∧ ((gF z 16 r).toInt ≤ h ∧ h ≤ (gF z 17 r).toInt)))
def Qm (z : St) (home : Int32) (h : Nat) : Prop := ∃ r : Nat, (r : Int) < (gI z 22).toInt ∧ QR z home (h : Int) r
set_option maxHeartbeats 1000000 in
theorem v_X9_isQuiet (b1 b2 : Int32) (z : St) (P : Int32 → Prop) (ht : TM z) (h1 : 0 ≤ b2.toInt) (hk1 : Qm z b1 (b2.toNatClampNeg % 24) → P 1) (hk0 : ¬ Qm z b1 (b2.toNatClampNeg % 24) → P 0) : wp_X9_isQuiet b1 b2 z P := by
  have f22 : 0 ≤ (gI z 22).toInt ∧ (gI z 22).toInt ≤ 20 := ht.1 22
  have cb := clampN h1
  unfold wp_X9_isQuiet
  intro x1 e1
  have ir : x1.toInt = ((b2.toNatClampNeg % 24 : Nat) : Int) := by
    rw [e1, a_rem rfl h1 rfl]; omega
  intro K4 hK4
  have LL : ∀ (n : Nat) (v2 v3 : Int32), 0 ≤ v3.toInt → v3.toInt ≤ 20 → ((v2 = 1 ∧ Qm z b1 (b2.toNatClampNeg % 24)) ∨ (v2 = 0 ∧ ∀ r : Nat, (r : Int) < v3.toInt → ¬ QR z b1 x1.toInt r)) → (20 - v3.toInt).toNat < n → K4 v2 v3 := by
    intro n
    induction n with
    | zero => intro v2 v3 _ _ _ q; omega
    | succ n ih =>
      intro v2 v3 g0 g1 hv gm
      have cv := clampN g0
      refine hK4 v2 v3 ⟨fun c => ?_, fun c => ?_⟩
      · have c' := i_le rfl rfl c
        rcases hv with ⟨q, hd⟩ | ⟨q, hd⟩
        · exact ⟨Or.inr q, by rw [q]; exact hk1 hd⟩
        · exact ⟨Or.inl q, by rw [q]; exact hk0 (fun ⟨r, h1, h2⟩ => hd r (by omega) (by rw [ir]; exact h2))⟩
      · have c' := i_nle rfl rfl c
        have hv20 : vp_in v3 20 := vin rfl g0 (by omega)
        refine ⟨hv20, ?_⟩
        intro K7 hK7
        have h7 : ∀ v6 : Int32, ((v6 = 1 ∧ Qm z b1 (b2.toNatClampNeg % 24)) ∨ (v6 = 0 ∧ ∀ r : Nat, (r : Int) < v3.toInt + 1 → ¬ QR z b1 x1.toInt r)) → K7 v6 := by
          intro v6 hs
          refine hK7 v6 (fun x8 e8 => ?_)
          have i8 : x8.toInt = v3.toInt + 1 := by rw [e8]; exact a_add rfl rfl (by omega) (by omega)
          exact ih v6 x8 (by omega) (by omega) (by rw [i8]; exact hs) (by omega)
        have no7 : ¬ QR z b1 x1.toInt v3.toNatClampNeg → K7 v2 := by
          intro hn
          rcases hv with ⟨q, hd⟩ | ⟨q, hd⟩
          · exact h7 v2 (Or.inl ⟨q, hd⟩)
          · refine h7 v2 (Or.inr ⟨q, fun r hr => ?_⟩)
            by_cases e : r = v3.toNatClampNeg
            · rw [e]; exact hn
            · exact hd r (by omega)
        have yes7 : Qm z b1 (b2.toNatClampNeg % 24) → K7 1 := fun hd => h7 1 (Or.inl ⟨rfl, hd⟩)
        have mk : QR z b1 x1.toInt v3.toNatClampNeg → Qm z b1 (b2.toNatClampNeg % 24) := fun hq => ⟨v3.toNatClampNeg, by omega, by rw [← ir]; exact hq⟩
        refine ⟨fun c1 => no7 (fun q => c1 q.1), fun c1 => ⟨hv20, fun c2 => no7 (fun q => c2 q.2.1), fun c2 => ?_⟩⟩
        intro K12 hK12 K13 hK13
        have k13 : Qm z b1 (b2.toNatClampNeg % 24) → K13 := fun hd => hK13 (hK12 1 (yes7 hd))
        refine ⟨fun c3 => ?_, fun c3 => ⟨hv20, hv20, ?_⟩⟩
        · rcases hv with ⟨q, hd⟩ | ⟨q, hd⟩
          · exact k13 hd
          · exact absurd q c3
        · intro K15 hK15
          have k15 : ¬ QR z b1 x1.toInt v3.toNatClampNeg → K15 := fun hn => hK15 (hK12 0 (by have := no7 hn; rw [c3] at this; exact this))
          refine ⟨fun c4 => ⟨hv20, fun c5 => k13 (mk ⟨c1, c2, Or.inl ⟨c4, Or.inl (i_le rfl rfl c5)⟩⟩), fun c5 => ⟨hv20, fun c6 => k15 (fun q => ?_), fun c6 => k13 (mk ⟨c1, c2, Or.inl ⟨c4, Or.inr (i_nlt rfl rfl c6)⟩⟩)⟩⟩, fun c4 => ⟨hv20, hv20, ?_⟩⟩
          · rcases q.2.2 with ⟨_, q'⟩ | ⟨q', _⟩
            · have := i_nle rfl rfl c5
              have := i_lt rfl rfl c6
              omega
            · exact q' c4
          · refine s_X9_in _ _ _ _ _ ht (fun r20 hr => ?_)
            rw [show (Int32.toInt64 x1).toInt = x1.toInt from a_wide rfl, show (Int32.toInt64 (gF z 16 v3.toNatClampNeg)).toInt = (gF z 16 v3.toNatClampNeg).toInt from a_wide rfl, show (Int32.toInt64 (gF z 17 v3.toNatClampNeg)).toInt = (gF z 17 v3.toNatClampNeg).toInt from a_wide rfl] at hr
            refine ⟨fun c5 => k15 (fun q => ?_), fun c5 => ?_⟩
            · rcases q.2.2 with ⟨q', _⟩ | ⟨_, q'⟩
              · exact c4 q'
              · rcases hr with h | h
                · rw [h.1] at c5; exact absurd c5 (by decide)
                · omega
            · rcases hr with h | h
              · exact k13 (mk ⟨c1, c2, Or.inr ⟨c4, h.2⟩⟩)
              · exact absurd h.1 c5
  exact LL _ 0 0 (by decide) (by decide) (Or.inr ⟨rfl, fun r hr => absurd hr (by have : (0 : Int32).toInt = 0 := rfl; omega)⟩) (Nat.lt_succ_self _)
