-- MAY IT BEGIN, the reference's method
def amF (z : St) (j t : Int32) : Nat → Int32
  | 0 => 0
  | o + 1 => amF z j t o + LD z (nI o) t j
def Fm (z : St) (j t : Nat) : Int32 := LD z (gF z 6 j) (nI t) (nI j)
def Am (z : St) (j t : Nat) : Int32 := amF z (nI j) (nI t) (gI z 8).toNatClampNeg
def Bm (z : St) (i o : Nat) : Prop := ∃ r : Nat, (r : Int) < (gI z 22).toInt ∧ gF z 14 r = 2 ∧ gF z 15 r = nI i ∧ gF z 16 r = nI o
def TUm (z : St) (j : Nat) (h : Int) : Prop := TUp (gI z 12).toNatClampNeg (gF z 11) (gF z 12) (gF z 9) (Bm z) j h
def MBm (z : St) (j : Nat) (h : Int) : Prop := MBp (gI z 2).toInt (gF z 7 j).toInt (gF z 8 j).toInt (gF z 9 j).toInt (fun k => gF z 10 (4 * j + k)) (gF z 4 (gF z 6 j).toNatClampNeg) (gI z 11) (Qm z (gF z 6 j)) (Dm z) (Fm z j) (Am z j) (TUm z j h) h
/-- where a job that is not open begins -/
def BG (z : St) : Prop := ∀ o : Nat, (o : Int) < (gI z 12).toInt → ¬ gF z 11 o = 0 → 0 ≤ (gF z 12 o).toInt ∧ (gF z 12 o).toInt ≤ 167
def R1 (z : St) (j : Int32) (h : Int) (r : Nat) : Prop := gF z 14 r = 2 → gF z 15 r = j → (0 ≤ (gF z 16 r).toInt ∧ (gF z 16 r).toInt < (gI z 12).toInt) → ¬ gF z 11 (gF z 16 r).toNatClampNeg = 0 → h + (gF z 9 j.toNatClampNeg).toInt ≤ (gF z 12 (gF z 16 r).toNatClampNeg).toInt
def R2 (z : St) (j : Int32) (h : Int) (r : Nat) : Prop := gF z 14 r = 2 → gF z 16 r = j → (0 ≤ (gF z 15 r).toInt ∧ (gF z 15 r).toInt < (gI z 12).toInt) → ¬ gF z 11 (gF z 15 r).toNatClampNeg = 0 → (gF z 12 (gF z 15 r).toNatClampNeg).toInt + (gF z 9 (gF z 15 r).toNatClampNeg).toInt ≤ h
theorem TU_rules {z : St} {j : Int32} {h : Int} (h0 : 0 ≤ j.toInt) (hn : 0 ≤ (gI z 12).toInt ∧ (gI z 12).toInt ≤ 16) : TUm z j.toNatClampNeg h ↔ ∀ r : Nat, (r : Int) < (gI z 22).toInt → R1 z j h r ∧ R2 z j h r := by
  have ej := nI_cl h0
  have cn := clampN hn.1
  constructor
  · intro tu r hr
    refine ⟨fun a b c d => ?_, fun a b c d => ?_⟩
    · have c1 := clampN c.1
      exact (tu (gF z 16 r).toNatClampNeg (by omega) d).1 ⟨r, hr, a, by rw [← ej]; exact b, nI_cl c.1⟩
    · have c1 := clampN c.1
      exact (tu (gF z 15 r).toNatClampNeg (by omega) d).2 ⟨r, hr, a, nI_cl c.1, by rw [← ej]; exact b⟩
  · intro ru o ho hs
    refine ⟨fun ⟨r, hr, a, b, c⟩ => ?_, fun ⟨r, hr, a, b, c⟩ => ?_⟩
    · have e : (gF z 16 r).toNatClampNeg = o := by rw [c, nI_clamp (by omega)]
      have e' : (gF z 16 r).toInt = (o : Int) := by rw [c, nI_toInt (by omega)]
      have := (ru r hr).1 a (by rw [ej]; exact b) (by omega) (by rw [e]; exact hs)
      rw [e] at this; exact this
    · have e : (gF z 15 r).toNatClampNeg = o := by rw [b, nI_clamp (by omega)]
      have e' : (gF z 15 r).toInt = (o : Int) := by rw [b, nI_toInt (by omega)]
      have := (ru r hr).2 a (by rw [ej]; exact c) (by omega) (by rw [e]; exact hs)
      rw [e] at this; exact this
theorem Qm_sm {z zz : St} (s : Same [21] [13] z zz) : Qm zz = Qm z := by
  unfold Qm QR
  rw [s.1 22 (by decide), s.2 14 (by decide), s.2 15 (by decide), s.2 16 (by decide), s.2 17 (by decide)]
theorem Dm_sm {z zz : St} (s : Same [21] [13] z zz) : Dm zz = Dm z := by
  unfold Dm PR
  rw [s.1 22 (by decide), s.1 2 (by decide), s.1 3 (by decide), s.1 7 (by decide), s.2 14 (by decide), s.2 15 (by decide), s.2 1 (by decide), s.2 2 (by decide), s.2 3 (by decide)]
theorem LD_sm {z zz : St} {b1 b2 b3 : Int32} (s : Same [21] [13] z zz) : LD zz b1 b2 b3 = LD z b1 b2 b3 := LD_same s (by decide) (by decide) (by decide) (by decide) (by decide) (by decide) (by decide)
set_option maxHeartbeats 2000000 in
theorem v_X9_mayBegin (b1 b2 : Int32) (z : St) (P : Int32 → St → Prop) (ht : TM z) (h0 : 0 ≤ b1.toInt ∧ b1.toInt ≤ 15) (fr : FR z) (bg : BG z) (hk1 : MBm z b1.toNatClampNeg b2.toInt → ∀ z2 : St, TM z2 → Same [21] [13] z z2 → FR z2 → z2.2.2 = z.2.2 → P 1 z2) (hk0 : ¬ MBm z b1.toNatClampNeg b2.toInt → ∀ z2 : St, TM z2 → Same [21] [13] z z2 → FR z2 → z2.2.2 = z.2.2 → P 0 z2) : wp_X9_mayBegin b1 b2 z P := by
  have hv : vp_in b1 16 := vin rfl h0.1 (by omega)
  have c1 := clampN h0.1
  have e1 := nI_cl h0.1
  have f2 : 0 ≤ (gI z 2).toInt ∧ (gI z 2).toInt ≤ 167 := ht.1 2
  have f8' : 0 ≤ (gI z 8).toInt ∧ (gI z 8).toInt ≤ 4 := ht.1 8
  have cn8 := clampN f8'.1
  have f12 : 0 ≤ (gI z 12).toInt ∧ (gI z 12).toInt ≤ 16 := ht.1 12
  have f22 : 0 ≤ (gI z 22).toInt ∧ (gI z 22).toInt ≤ 20 := ht.1 22
  have f7 : 0 ≤ (gF z 7 b1.toNatClampNeg).toInt ∧ (gF z 7 b1.toNatClampNeg).toInt ≤ 167 := ht.2 7 _
  have f8 : 0 ≤ (gF z 8 b1.toNatClampNeg).toInt ∧ (gF z 8 b1.toNatClampNeg).toInt ≤ 167 := ht.2 8 _
  have f9 : ∀ i, 0 ≤ (gF z 9 i).toInt ∧ (gF z 9 i).toInt ≤ 4 := fun i => ht.2 9 i
  have f9b := f9 b1.toNatClampNeg
  have f6 : 0 ≤ (gF z 6 b1.toNatClampNeg).toInt ∧ (gF z 6 b1.toNatClampNeg).toInt ≤ 3 := ht.2 6 _
  unfold wp_X9_mayBegin
  refine ⟨fun c => hk0 (fun q => by have := i_lt rfl rfl c; have := q.1; omega) z ht Same.rf fr rfl, fun c => ⟨hv, hv, ?_⟩⟩
  have d1 := i_nlt rfl rfl c
  refine s_X9_in _ _ _ _ _ ht (fun r3 hr3 => ?_)
  rw [show (Int32.toInt64 b2).toInt = b2.toInt from a_wide rfl, show (Int32.toInt64 (gF z 7 b1.toNatClampNeg)).toInt = (gF z 7 b1.toNatClampNeg).toInt from a_wide rfl, show (Int32.toInt64 (gF z 8 b1.toNatClampNeg)).toInt = (gF z 8 b1.toNatClampNeg).toInt from a_wide rfl] at hr3
  refine ⟨fun c3 => hk0 (fun q => ?_) z ht Same.rf fr rfl, fun c3 => ⟨hv, ?_⟩⟩
  · rcases hr3 with h | h
    · rw [h.1] at c3; exact absurd c3 (by decide)
    · have := q.2.1; have := q.2.2.1; omega
  have d2 : (gF z 7 b1.toNatClampNeg).toInt ≤ b2.toInt ∧ b2.toInt ≤ (gF z 8 b1.toNatClampNeg).toInt := by
    rcases hr3 with h | h
    · exact h.2
    · exact absurd h.1 c3
  have cb2 := clampN (x := b2) (by omega)
  have i9 : (b2 + gF z 9 b1.toNatClampNeg).toInt = b2.toInt + (gF z 9 b1.toNatClampNeg).toInt := a_add rfl rfl (by omega) (by omega)
  refine ⟨fun c4 => ?_, fun c4 => hk0 (fun q => by have := i_nle (q := 168) i9 rfl c4; have := q.2.2.2.1; omega) z ht Same.rf fr rfl⟩
  have d4 := i_le (q := 168) i9 rfl c4
  intro K7 hK7
  have L7 : ∀ (n : Nat) (v6 : Int32) (z8 : St), TM z8 → Same [21] [13] z z8 → FR z8 → z8.2.2 = z.2.2 → 0 ≤ v6.toInt → v6.toInt ≤ 4 → (∀ k : Nat, (k : Int) < v6.toInt → (k : Int) < (gF z 9 b1.toNatClampNeg).toInt → (¬ Qm z (gF z 6 b1.toNatClampNeg) ((b2.toInt.toNat + k) % 24) ∧ ¬ Dm z (b2.toInt.toNat + k)) ∧ (Fm z b1.toNatClampNeg (b2.toInt.toNat + k) + gF z 10 (4 * b1.toNatClampNeg + k) ≤ gF z 4 (gF z 6 b1.toNatClampNeg).toNatClampNeg ∧ Am z b1.toNatClampNeg (b2.toInt.toNat + k) + gF z 10 (4 * b1.toNatClampNeg + k) ≤ gI z 11)) → (4 - v6.toInt).toNat < n → K7 v6 z8 := by
    intro n
    induction n with
    | zero => intro v6 z8 _ _ _ _ _ _ _ q; omega
    | succ n ih =>
      intro v6 z8 t8 s8 fr8 l8 g0 g1 hall gm
      have cv := clampN g0
      have r9 : gF z8 9 = gF z 9 := s8.2 9 (by decide)
      have r6 : gF z8 6 = gF z 6 := s8.2 6 (by decide)
      refine hK7 v6 z8 ⟨hv, fun c => ?_, fun c => ?_⟩
      · -- the rules of order
        rw [r9] at c
        have c' := i_le rfl rfl c
        have r22 : gI z8 22 = gI z 22 := s8.1 22 (by decide)
        have r14 : gF z8 14 = gF z 14 := s8.2 14 (by decide)
        have r15 : gF z8 15 = gF z 15 := s8.2 15 (by decide)
        have r16 : gF z8 16 = gF z 16 := s8.2 16 (by decide)
        have r11 : gF z8 11 = gF z 11 := s8.2 11 (by decide)
        have r12 : gF z8 12 = gF z 12 := s8.2 12 (by decide)
        have q12 : gI z8 12 = gI z 12 := s8.1 12 (by decide)
        have hT := TU_rules (z := z) (j := b1) (h := b2.toInt) h0.1 f12
        rw [r22, r14, r15, r16, r11, r12, r9]
        intro K12 hK12
        have L12 : ∀ (m : Nat) (v10 v11 : Int32), 0 ≤ v11.toInt → v11.toInt ≤ 20 → ((v10 = 1 ∧ ∀ r : Nat, (r : Int) < v11.toInt → R1 z b1 b2.toInt r ∧ R2 z b1 b2.toInt r) ∨ (v10 = 0 ∧ ¬ TUm z b1.toNatClampNeg b2.toInt)) → (20 - v11.toInt).toNat < m → K12 v10 v11 := by
          intro m
          induction m with
          | zero => intro v10 v11 _ _ _ q; omega
          | succ m ihm =>
            intro v10 v11 a0 a1 hv10 am
            have cv11 := clampN a0
            refine hK12 v10 v11 ⟨fun cc => ?_, fun cc => ?_⟩
            · have cc' := i_le rfl rfl cc
              rcases hv10 with ⟨q, hq⟩ | ⟨q, hq⟩
              · refine ⟨Or.inr q, ?_⟩
                rw [q]
                exact hk1 ⟨d1, d2.1, d2.2, d4, fun k hk => hall k (by omega) hk, hT.mpr (fun r hr => hq r (by omega))⟩ z8 t8 s8 fr8 l8
              · refine ⟨Or.inl q, ?_⟩
                rw [q]
                exact hk0 (fun x => hq x.2.2.2.2.2) z8 t8 s8 fr8 l8
            · have cc' := i_nle rfl rfl cc
              have hv20 : vp_in v11 20 := vin rfl a0 (by omega)
              refine ⟨hv20, ?_⟩
              intro K15 hK15
              have h15 : ∀ v14 : Int32, ((v14 = 1 ∧ (∀ r : Nat, (r : Int) < v11.toInt → R1 z b1 b2.toInt r ∧ R2 z b1 b2.toInt r) ∧ R1 z b1 b2.toInt v11.toNatClampNeg ∧ R2 z b1 b2.toInt v11.toNatClampNeg) ∨ (v14 = 0 ∧ ¬ TUm z b1.toNatClampNeg b2.toInt)) → K15 v14 := by
                intro v14 hs
                refine hK15 v14 (fun x16 e16 => ?_)
                have i16 : x16.toInt = v11.toInt + 1 := by rw [e16]; exact a_add rfl rfl (by omega) (by omega)
                refine ihm v14 x16 (by omega) (by omega) ?_ (by omega)
                rcases hs with ⟨q, h1, h2⟩ | q
                · refine Or.inl ⟨q, fun r hr => ?_⟩
                  by_cases e : r = v11.toNatClampNeg
                  · rw [e]; exact h2
                  · exact h1 r (by omega)
                · exact Or.inr q
              have badT : ¬ (R1 z b1 b2.toInt v11.toNatClampNeg ∧ R2 z b1 b2.toInt v11.toNatClampNeg) → ¬ TUm z b1.toNatClampNeg b2.toInt := fun hn ht => hn (hT.mp ht v11.toNatClampNeg (by omega))
              refine ⟨fun cs => ⟨hv20, ?_⟩, fun cs => h15 v10 ?_⟩
              · intro K19 hK19
                have h19 : ∀ v18 : Int32, ((v18 = 1 ∧ (∀ r : Nat, (r : Int) < v11.toInt → R1 z b1 b2.toInt r ∧ R2 z b1 b2.toInt r) ∧ R1 z b1 b2.toInt v11.toNatClampNeg) ∨ (v18 = 0 ∧ ¬ TUm z b1.toNatClampNeg b2.toInt)) → K19 v18 := by
                  intro v18 hs
                  refine hK19 v18 ⟨hv20, fun cb => h15 v18 ?_, fun cb => ⟨hv20, ?_⟩⟩
                  · rcases hs with ⟨q, h1, h2⟩ | q
                    · exact Or.inl ⟨q, h1, h2, fun _ b _ _ => absurd b cb⟩
                    · exact Or.inr q
                  · refine s_X9_isJob _ _ _ t8 (fun r22' hr22 => ?_)
                    rw [q12] at hr22
                    refine ⟨fun cj => h15 v18 ?_, fun cj => ?_⟩
                    · rcases hs with ⟨q, h1, h2⟩ | q
                      · refine Or.inl ⟨q, h1, h2, fun _ _ c _ => ?_⟩
                        rcases hr22 with h | h
                        · rw [h.1] at cj; exact absurd cj (by decide)
                        · omega
                      · exact Or.inr q
                    · have hj : 0 ≤ (gF z 15 v11.toNatClampNeg).toInt ∧ (gF z 15 v11.toNatClampNeg).toInt < (gI z 12).toInt := by
                        rcases hr22 with h | h
                        · exact h.2
                        · exact absurd h.1 cj
                      have cj15 := clampN hj.1
                      have hv16 : vp_in (gF z 15 v11.toNatClampNeg) 16 := vin rfl hj.1 (by omega)
                      refine ⟨hv20, hv16, fun cs0 => h15 v18 ?_, fun cs0 => ?_⟩
                      · rcases hs with ⟨q, h1, h2⟩ | q
                        · exact Or.inl ⟨q, h1, h2, fun _ _ _ d => absurd cs0 d⟩
                        · exact Or.inr q
                      · have bgo := bg (gF z 15 v11.toNatClampNeg).toNatClampNeg (by omega) cs0
                        have f9o := f9 (gF z 15 v11.toNatClampNeg).toNatClampNeg
                        have ia : (gF z 12 (gF z 15 v11.toNatClampNeg).toNatClampNeg + gF z 9 (gF z 15 v11.toNatClampNeg).toNatClampNeg).toInt = (gF z 12 (gF z 15 v11.toNatClampNeg).toNatClampNeg).toInt + (gF z 9 (gF z 15 v11.toNatClampNeg).toNatClampNeg).toInt := a_add rfl rfl (by omega) (by omega)
                        intro K26 hK26 K27 hK27
                        have k27 : ¬ TUm z b1.toNatClampNeg b2.toInt → K27 := fun hn => hK27 (hK26 0 (h15 0 (Or.inr ⟨rfl, hn⟩)))
                        rcases hs with ⟨q, h1, h2⟩ | ⟨q, hn⟩
                        · refine ⟨fun q' => absurd (q.symm.trans q') (by decide), fun _ => ⟨hv20, hv16, hv20, hv16, fun cl => k27 (badT (fun x => ?_)), fun cl => hK26 1 (h15 1 (Or.inl ⟨rfl, h1, h2, fun _ _ _ _ => ?_⟩))⟩⟩
                          · have := x.2 cs cb hj cs0
                            have := i_lt rfl ia cl
                            omega
                          · exact i_nlt rfl ia cl
                        · exact ⟨fun _ => k27 hn, fun q' => absurd q q'⟩
                refine ⟨fun ca => h19 v10 ?_, fun ca => ⟨hv20, ?_⟩⟩
                · rcases hv10 with ⟨q, h1⟩ | q
                  · exact Or.inl ⟨q, h1, fun _ b _ _ => absurd b ca⟩
                  · exact Or.inr q
                · refine s_X9_isJob _ _ _ t8 (fun r32 hr32 => ?_)
                  rw [q12] at hr32
                  refine ⟨fun cj => h19 v10 ?_, fun cj => ?_⟩
                  · rcases hv10 with ⟨q, h1⟩ | q
                    · refine Or.inl ⟨q, h1, fun _ _ c _ => ?_⟩
                      rcases hr32 with h | h
                      · rw [h.1] at cj; exact absurd cj (by decide)
                      · omega
                    · exact Or.inr q
                  · have hj : 0 ≤ (gF z 16 v11.toNatClampNeg).toInt ∧ (gF z 16 v11.toNatClampNeg).toInt < (gI z 12).toInt := by
                      rcases hr32 with h | h
                      · exact h.2
                      · exact absurd h.1 cj
                    have cj16 := clampN hj.1
                    have hv16 : vp_in (gF z 16 v11.toNatClampNeg) 16 := vin rfl hj.1 (by omega)
                    refine ⟨hv20, hv16, fun cs0 => h19 v10 ?_, fun cs0 => ?_⟩
                    · rcases hv10 with ⟨q, h1⟩ | q
                      · exact Or.inl ⟨q, h1, fun _ _ _ d => absurd cs0 d⟩
                      · exact Or.inr q
                    · intro K36 hK36 K37 hK37
                      have k37 : ¬ TUm z b1.toNatClampNeg b2.toInt → K37 := fun hn => hK37 (hK36 0 (h19 0 (Or.inr ⟨rfl, hn⟩)))
                      rcases hv10 with ⟨q, h1⟩ | ⟨q, hn⟩
                      · refine ⟨fun q' => absurd (q.symm.trans q') (by decide), fun _ => ⟨hv20, hv16, hv, fun cl => k37 (badT (fun x => ?_)), fun cl => hK36 1 (h19 1 (Or.inl ⟨rfl, h1, fun _ _ _ _ => ?_⟩))⟩⟩
                        · have := x.1 cs ca hj cs0
                          have := i_lt rfl i9 cl
                          omega
                        · exact i_nlt rfl i9 cl
                      · exact ⟨fun _ => k37 hn, fun q' => absurd q q'⟩
              · rcases hv10 with ⟨q, h1⟩ | q
                · exact Or.inl ⟨q, h1, fun a => absurd a cs, fun a => absurd a cs⟩
                · exact Or.inr q
        exact L12 _ 1 0 (by decide) (by decide) (Or.inl ⟨rfl, fun r hr => absurd hr (by have : (0 : Int32).toInt = 0 := rfl; omega)⟩) (Nat.lt_succ_self _)
      · -- one hour
        rw [r9] at c
        have c' := i_nle rfl rfl c
        intro x40 e40
        have i40 : x40.toInt = b2.toInt + v6.toInt := by rw [e40]; exact a_add rfl rfl (by omega) (by omega)
        have c40 := clampN (x := x40) (by omega)
        have e40' : x40.toNatClampNeg = b2.toInt.toNat + v6.toNatClampNeg := by omega
        have en40 : x40 = nI (b2.toInt.toNat + v6.toNatClampNeg) := by rw [← e40']; exact nI_cl (by omega)
        have bad : ∀ zz : St, TM zz → Same [21] [13] z zz → FR zz → zz.2.2 = z.2.2 → ¬ ((¬ Qm z (gF z 6 b1.toNatClampNeg) ((b2.toInt.toNat + v6.toNatClampNeg) % 24) ∧ ¬ Dm z (b2.toInt.toNat + v6.toNatClampNeg)) ∧ (Fm z b1.toNatClampNeg (b2.toInt.toNat + v6.toNatClampNeg) + gF z 10 (4 * b1.toNatClampNeg + v6.toNatClampNeg) ≤ gF z 4 (gF z 6 b1.toNatClampNeg).toNatClampNeg ∧ Am z b1.toNatClampNeg (b2.toInt.toNat + v6.toNatClampNeg) + gF z 10 (4 * b1.toNatClampNeg + v6.toNatClampNeg) ≤ gI z 11)) → P 0 zz := fun zz tz sz fz lz hn => hk0 (fun q => hn (q.2.2.2.2.1 v6.toNatClampNeg (by omega))) zz tz sz fz lz
        refine ⟨hv, ?_⟩
        rw [r6]
        refine v_X9_isQuiet _ _ z8 _ t8 (by omega) (fun hq => ⟨fun _ => ?_, fun q => absurd q (by decide)⟩) (fun hq => ⟨fun q => absurd rfl q, fun _ => ?_⟩)
        · rw [Qm_sm s8, e40'] at hq
          exact bad z8 t8 s8 fr8 l8 (fun x => x.1.1 hq)
        · rw [Qm_sm s8, e40'] at hq
          refine v_X9_isDear _ z8 _ t8 (by omega) fr8 (fun hd z44 t44 s44 fr44 l44 => ⟨fun _ => ?_, fun q => absurd q (by decide)⟩) (fun hd z44 t44 s44 fr44 l44 => ⟨fun q => absurd rfl q, fun _ => ?_⟩)
          · rw [Dm_sm s8, e40'] at hd
            exact bad z44 t44 (s8.tr s44 (by decide) (by decide)) fr44 (l44.trans l8) (fun x => x.1.2 hd)
          · rw [Dm_sm s8, e40'] at hd
            have s44' : Same [21] [13] z z44 := s8.tr s44 (by decide) (by decide)
            have w6 : gF z44 6 = gF z 6 := s44'.2 6 (by decide)
            have w10 : gF z44 10 = gF z 10 := s44'.2 10 (by decide)
            have w4 : gF z44 4 = gF z 4 := s44'.2 4 (by decide)
            have w8 : gI z44 8 = gI z 8 := s44'.1 8 (by decide)
            have w11 : gI z44 11 = gI z 11 := s44'.1 11 (by decide)
            have m4 : ((4 : Int32) * b1).toInt = 4 * b1.toInt := a_mul rfl rfl (by omega) (by omega)
            have i4 : ((4 : Int32) * b1 + v6).toInt = 4 * b1.toInt + v6.toInt := a_add m4 rfl (by omega) (by omega)
            have c4' := clampN (x := (4 : Int32) * b1 + v6) (by omega)
            have e4 : ((4 : Int32) * b1 + v6).toNatClampNeg = 4 * b1.toNatClampNeg + v6.toNatClampNeg := by omega
            refine ⟨hv, ?_⟩
            rw [w6]
            refine v_X9_loadOf _ _ _ _ _ t44 f6 (by omega) ?_
            rw [LD_sm s44', w10, w4, e4]
            have hF : LD z (gF z 6 b1.toNatClampNeg) x40 b1 = Fm z b1.toNatClampNeg (b2.toInt.toNat + v6.toNatClampNeg) := by
              unfold Fm
              rw [← en40, ← e1]
            rw [hF]
            refine ⟨vin i4 (by omega) (by omega), hv, vin rfl f6.1 (by omega), fun cf => ⟨vin i4 (by omega) (by omega), ?_⟩, fun cf => bad z44 t44 s44' fr44 (l44.trans l8) (fun x => cf x.2.1)⟩
            intro x50 e50 K53 hK53
            rw [w8, w11] at hK53
            have L53 : ∀ (m : Nat) (v51 v52 : Int32), 0 ≤ v52.toInt → v52.toInt ≤ (gI z 8).toInt → v51 = amF z b1 x40 v52.toNatClampNeg + gF z 10 (4 * b1.toNatClampNeg + v6.toNatClampNeg) → (4 - v52.toInt).toNat < m → K53 v51 v52 := by
              intro m
              induction m with
              | zero => intro v51 v52 _ _ _ q; omega
              | succ m ihm =>
                intro v51 v52 a0 a1 hs am
                have cv52 := clampN a0
                refine hK53 v51 v52 ⟨fun cc => ?_, fun cc => ?_⟩
                · have cc' := i_le rfl rfl cc
                  have hA : v51 = Am z b1.toNatClampNeg (b2.toInt.toNat + v6.toNatClampNeg) + gF z 10 (4 * b1.toNatClampNeg + v6.toNatClampNeg) := by
                    rw [hs]
                    unfold Am
                    rw [← en40, ← e1, show v52.toNatClampNeg = (gI z 8).toNatClampNeg by omega]
                  rw [hA]
                  refine ⟨fun ca => ?_, fun ca => bad z44 t44 s44' fr44 (l44.trans l8) (fun x => ca x.2.2)⟩
                  intro x56 e56
                  have i56 : x56.toInt = v6.toInt + 1 := by rw [e56]; exact a_add rfl rfl (by omega) (by omega)
                  refine ih x56 z44 t44 s44' fr44 (l44.trans l8) (by omega) (by omega) (fun k h1 h2 => ?_) (by omega)
                  by_cases e : k = v6.toNatClampNeg
                  · rw [e]; exact ⟨⟨hq, hd⟩, cf, ca⟩
                  · exact hall k (by omega) h2
                · have cc' := i_nle rfl rfl cc
                  refine v_X9_loadOf _ _ _ _ _ t44 (by omega) (by omega) ?_
                  rw [LD_sm s44']
                  intro x59 e59 x60 e60
                  have i60 : x60.toInt = v52.toInt + 1 := by rw [e60]; exact a_add rfl rfl (by omega) (by omega)
                  have c60 := clampN (x := x60) (by omega)
                  refine ihm x59 x60 (by omega) (by omega) ?_ (by omega)
                  rw [e59, hs, show x60.toNatClampNeg = v52.toNatClampNeg + 1 by omega]
                  show _ = amF z b1 x40 v52.toNatClampNeg + LD z (nI v52.toNatClampNeg) x40 b1 + _
                  rw [← nI_cl a0, Int32.add_assoc, Int32.add_assoc, Int32.add_comm (gF z 10 _)]
            refine L53 _ x50 0 (by decide) (by have : (0 : Int32).toInt = 0 := rfl; omega) ?_ (Nat.lt_succ_self _)
            rw [e50]
            show _ = (0 : Int32) + _
            rw [Int32.zero_add]
  exact L7 _ 0 z ht Same.rf fr rfl (by decide) (by decide) (fun k h => absurd h (by have : (0 : Int32).toInt = 0 := rfl; omega)) (Nat.lt_succ_self _)
-- the same of any plan st, bg over what z was told
def amG (z : St) (st bg : Nat → Int32) (j t : Int32) : Nat → Int32
  | 0 => 0
  | o + 1 => amG z st bg j t o + ldF (gF z 5) (gF z 6) (gF z 9) (gF z 10) st bg (nI o) t j (gI z 12).toNatClampNeg
theorem amF_G {z : St} {j t : Int32} : ∀ n, amF z j t n = amG z (gF z 11) (gF z 12) j t n := by
  intro n
  induction n with
  | zero => rfl
  | succ n ih =>
    show amF z j t n + LD z (nI n) t j = amG z (gF z 11) (gF z 12) j t n + _
    rw [ih]
def Fg (z : St) (st bg : Nat → Int32) (j t : Nat) : Int32 := ldF (gF z 5) (gF z 6) (gF z 9) (gF z 10) st bg (gF z 6 j) (nI t) (nI j) (gI z 12).toNatClampNeg
def Ag (z : St) (st bg : Nat → Int32) (j t : Nat) : Int32 := amG z st bg (nI j) (nI t) (gI z 8).toNatClampNeg
def TUg (z : St) (st bg : Nat → Int32) (j : Nat) (h : Int) : Prop := TUp (gI z 12).toNatClampNeg st bg (gF z 9) (Bm z) j h
def MBg (z : St) (st bg : Nat → Int32) (j : Nat) (h : Int) : Prop := MBp (gI z 2).toInt (gF z 7 j).toInt (gF z 8 j).toInt (gF z 9 j).toInt (fun k => gF z 10 (4 * j + k)) (gF z 4 (gF z 6 j).toNatClampNeg) (gI z 11) (Qm z (gF z 6 j)) (Dm z) (Fg z st bg j) (Ag z st bg j) (TUg z st bg j h) h
theorem MBm_g {z : St} {j : Nat} {h : Int} : MBm z j h ↔ MBg z (gF z 11) (gF z 12) j h := by
  have e : Am z j = Ag z (gF z 11) (gF z 12) j := by funext t; exact amF_G _
  unfold MBm MBg
  rw [e]
  exact Iff.rfl
