-- THE REFERENCE'S READER, as functions of the tape
theorem v_X9_isSmall (b1 : Int32) (z : St) (P : Int32 → Prop) (h1 : kd b1 = 1 → P 1) (h0 : kd b1 ≠ 1 → P 0) : wp_X9_isSmall b1 z P := by
  unfold wp_X9_isSmall
  refine ⟨fun c => h0 (fun k => ?_), fun c => ⟨fun c2 => h0 (fun k => ?_), fun c2 => h1 (kd_1.mpr ?_)⟩⟩
  · have := i_lt (q := 97) rfl rfl c; have := kd_1.mp k; omega
  · have := i_lt (p := 122) rfl rfl c2; have := kd_1.mp k; omega
  · have := i_nlt (q := 97) rfl rfl c; have := i_nlt (p := 122) rfl rfl c2; omega
theorem v_X9_isDigit (b1 : Int32) (z : St) (P : Int32 → Prop) (h1 : kd b1 = 2 → P 1) (h0 : kd b1 ≠ 2 → P 0) : wp_X9_isDigit b1 z P := by
  unfold wp_X9_isDigit
  refine ⟨fun c => h0 (fun k => ?_), fun c => ⟨fun c2 => h0 (fun k => ?_), fun c2 => h1 (kd_2.mpr ?_)⟩⟩
  · have := i_lt (q := 48) rfl rfl c; have := kd_2.mp k; omega
  · have := i_lt (p := 57) rfl rfl c2; have := kd_2.mp k; omega
  · have := i_nlt (q := 48) rfl rfl c; have := i_nlt (p := 57) rfl rfl c2; omega
def so (tp : Nat → Int32) (L : Nat) (t : Nat × Nat) : Int := if L ≤ t.1 then 0 else if kd (tp t.1) = 1 then 1 else if kd (tp t.1) = 2 then 2 else 3
def WO (tp : Nat → Int32) (L : Nat) (t : Nat × Nat) (w : Int64) : Prop := t.1 < L → (kd (tp t.1) = 0 → w = Int32.toInt64 (tp t.1)) ∧ (kd (tp t.1) = 1 → w.toInt = wv tp t.1 (t.2 - t.1)) ∧ (kd (tp t.1) = 2 → w.toInt = nv tp t.1 (t.2 - t.1))
def SM (z : St) (tp : Nat → Int32) (L : Nat) (t : Nat × Nat) : Prop := gF z 25 = tp ∧ (gI z 36).toInt = (L : Int) ∧ (gI z 37).toInt = (t.1 : Int) ∧ (gI z 38).toInt = (t.2 : Int) ∧ (gI z 39).toInt = so tp L t ∧ WO tp L t (gJ z 40)
theorem lmul {x y : Int64} {p q : Int} (hx : x.toInt = p) (hy : y.toInt = q) (h1 : -9223372036854775808 ≤ p * q) (h2 : p * q < 9223372036854775808) : (x * y).toInt = p * q := by
  subst hx; subst hy
  rw [Int64.toInt_mul]; exact Int.bmod_eq_of_le (by omega) (by omega)
set_option maxHeartbeats 1000000 in
theorem v_X9_next (z : St) (P : St → Prop) (ht : TM z) (tp : Nat → Int32) (L p : Nat) (htp : gF z 25 = tp) (hL : (gI z 36).toInt = (L : Int)) (hp : (gI z 38).toInt = (p : Int)) (hpl : p ≤ L) (hk : ∀ z2 : St, TM z2 → Same [37, 38, 39] [] z z2 → SM z2 tp L (nx tp L p) → P z2) : wp_X9_next z P := by
  have f1 : 0 ≤ (gI z 36).toInt ∧ (gI z 36).toInt ≤ 300 := ht.1 36
  have e1 : (1 : Int32).toInt = 1 := rfl
  unfold wp_X9_next
  intro K1 hK1
  have L1 : ∀ (n q : Nat) (z2 : St), TM z2 → Same [37, 38, 39] [] z z2 → (gI z2 37).toInt = (q : Int) → q ≤ L → sk tp (L - q) q = tS tp L p → L - q < n → K1 z2 := by
    intro n
    induction n with
    | zero => intro q z2 _ _ _ _ _ hm; omega
    | succ n ih =>
      intro q z2 t2 s2 hq hqL hsk hm
      have g1 : (gI z2 36).toInt = (L : Int) := (s2.fi 36 (by decide)).trans hL
      have g25 : gF z2 25 = tp := (s2.2 25 (by decide)).trans htp
      have cq := clampN (x := gI z2 37) (by omega)
      have eq : (gI z2 37).toNatClampNeg = q := by omega
      refine hK1 z2 ?_
      intro K3 hK3
      have k3 : tS tp L p = q → K3 := by
        intro hS
        refine hK3 ?_
        intro z4 e4 z5 e5 K7 hK7
        have t4 : TM z4 := by rw [e4]; exact Ty_wI t2 (t2.1 37)
        have t5 : TM z5 := by rw [e5]; exact Ty_wJ t4
        have s5 : Same [37, 38, 39] [] z z5 := (s2.i (by decide) e4).j e5
        have a2 : (gI z5 37).toInt = (q : Int) := by rw [e5, e4]; exact hq
        have a3 : (gI z5 38).toInt = (q : Int) := by rw [e5, e4]; exact hq
        have aw : gJ z5 40 = 0 := by rw [e5]; rfl
        have c5 := clampN (x := gI z5 37) (by omega)
        have eq5 : (gI z5 37).toNatClampNeg = q := by omega
        have g255 : gF z5 25 = tp := (s5.2 25 (by decide)).trans htp
        have g365 : (gI z5 36).toInt = (L : Int) := (s5.fi 36 (by decide)).trans hL
        have h7 : ∀ s6 : Int32, s6.toInt = so tp L (q, tE tp L q) → K7 s6 := by
          intro s6 hs6
          refine hK7 s6 ?_
          intro z8 e8 K9 hK9
          have t8 : TM z8 := by rw [e8]; exact Ty_wI t5 trivial
          have s8 : Same [37, 38, 39] [] z z8 := s5.i (by decide) e8
          have b2 : (gI z8 37).toInt = (q : Int) := by rw [e8]; exact a2
          have b3 : (gI z8 38).toInt = (q : Int) := by rw [e8]; exact a3
          have b9 : gI z8 39 = s6 := by rw [e8]; rfl
          have bw : gJ z8 40 = 0 := by rw [e8]; exact aw
          have fin : ∀ (z12 : St), TM z12 → Same [37, 38, 39] [] z z12 → (gI z12 37).toInt = (q : Int) → (gI z12 38).toInt = (tE tp L q : Int) → gI z12 39 = s6 → WO tp L (q, tE tp L q) (gJ z12 40) → P z12 := by
            intro z12 t12 s12 h2 h3 h9 hw
            refine hk z12 t12 s12 ?_
            unfold nx
            rw [hS]
            exact ⟨(s12.2 25 (by decide)).trans htp, (s12.fi 36 (by decide)).trans hL, h2, h3, by rw [h9]; exact hs6, hw⟩
          -- past the loops, where the token is no digits
          have past : ∀ (z10 : St), TM z10 → Same [37, 38, 39] [] z z10 → (gI z10 37).toInt = (q : Int) → (gI z10 38).toInt = (tE tp L q : Int) → gI z10 39 = s6 → s6 ≠ 1 → s6 ≠ 2 → WO tp L (q, tE tp L q) (gJ z10 40) → K9 z10 := by
            intro z10 t10 s10 h2 h3 h9 n1' n2' hw
            refine hK9 z10 ?_
            intro K11 hK11
            have h11 : K11 z10 := hK11 z10 ⟨fun _ => fin z10 t10 s10 h2 h3 h9 hw, fun c => absurd (h9.symm.trans c) n2'⟩
            exact ⟨fun _ => h11, fun c => absurd (h9.symm.trans c) n1'⟩
          have w1 : (1 : Int32).toInt = 1 := rfl
          have w2 : (2 : Int32).toInt = 2 := rfl
          have w3 : (3 : Int32).toInt = 3 := rfl
          have w0 : (0 : Int32).toInt = 0 := rfl
          by_cases hend : L ≤ q
          · have hso : so tp L (q, tE tp L q) = 0 := by unfold so; rw [if_pos (show L ≤ (q, tE tp L q).1 from hend)]
            have hE : tE tp L q = q := by unfold tE; rw [if_pos hend]
            rw [hso] at hs6
            have q6 : s6 = 0 := toI_inj hs6
            refine ⟨fun _ => past z8 t8 s8 b2 (by rw [hE]; exact b3) b9 (by rw [q6]; decide) (by rw [q6]; decide) (fun q' => absurd q' (by show ¬ q < L; omega)), fun c => absurd (b9.symm.trans c) (by rw [q6]; decide)⟩
          · have hE : tE tp L q = if kd (tp q) = 0 then q + 1 else rn tp (kd (tp q)) (L - (q + 1)) (q + 1) := by unfold tE; rw [if_neg hend]
            by_cases k1 : kd (tp q) = 1
            · -- a word
              have hso : so tp L (q, tE tp L q) = 1 := by unfold so; rw [if_neg (show ¬ L ≤ (q, tE tp L q).1 from hend), if_pos k1]
              rw [hso] at hs6
              have q6 : s6 = 1 := toI_inj hs6
              rw [k1, if_neg (by decide)] at hE
              refine ⟨fun _ => ?_, fun c => absurd (b9.symm.trans c) (by rw [q6]; decide)⟩
              have hE2 : tE tp L q = rn tp 1 (L - q) q := by
                rw [hE, show L - q = (L - (q + 1)) + 1 by omega]
                show _ = if kd (tp q) = 1 then _ else _
                rw [if_pos k1]
              have L9 : ∀ (n e : Nat) (z10 : St), TM z10 → Same [37, 38, 39] [] z z10 → (gI z10 37).toInt = (q : Int) → (gI z10 38).toInt = (e : Int) → gI z10 39 = s6 → q ≤ e → e ≤ L → rn tp 1 (L - e) e = tE tp L q → (∀ j, q ≤ j → j < e → kd (tp j) = 1) → (gJ z10 40).toInt = wv tp q (e - q) → L - e < n → K9 z10 := by
                intro n
                induction n with
                | zero => intro e z10 _ _ _ _ _ _ _ _ _ _ hm; omega
                | succ n ih9 =>
                  intro e z10 t10 s10 h2 h3 h9 he1 he2 hrn hall hw hm
                  have b1 : (gI z10 36).toInt = (L : Int) := (s10.fi 36 (by decide)).trans hL
                  have g2510 : gF z10 25 = tp := (s10.2 25 (by decide)).trans htp
                  have c10 := clampN (x := gI z10 38) (by omega)
                  have e10 : (gI z10 38).toNatClampNeg = e := by omega
                  refine hK9 z10 ?_
                  intro K11 hK11
                  have stop : e = tE tp L q → K11 z10 := by
                    intro he
                    refine hK11 z10 ⟨fun _ => fin z10 t10 s10 h2 (by rw [← he]; exact h3) h9 (fun _ => ⟨fun k => ?_, fun _ => ?_, fun k => ?_⟩), fun c => absurd (h9.symm.trans c) (by rw [q6]; decide)⟩
                    · exact absurd (show kd (tp q) = 0 from k) (by rw [k1]; decide)
                    · show (gJ z10 40).toInt = wv tp q (tE tp L q - q); rw [← he]; exact hw
                    · exact absurd (show kd (tp q) = 2 from k) (by rw [k1]; decide)
                  refine ⟨fun c => absurd (h9.trans q6) c, fun _ => ⟨fun c => stop ?_, fun c => ?_⟩⟩
                  · have c' := i_le rfl rfl c
                    rw [← hrn, show L - e = 0 by omega]; rfl
                  · have c' := i_nle rfl rfl c
                    have hst : rn tp 1 (L - e) e = if kd (tp e) = 1 then rn tp 1 (L - (e + 1)) (e + 1) else e := by
                      rw [show L - e = (L - (e + 1)) + 1 by omega]; rfl
                    refine ⟨vin rfl (by omega) (by omega), ?_⟩
                    refine v_X9_isSmall _ _ _ (fun ks => ⟨fun q' => absurd q' (by decide), fun _ => ?_⟩) (fun ks => ⟨fun _ => stop ?_, fun q' => absurd rfl q'⟩)
                    · rw [g2510, e10] at ks
                      intro K29 hK29
                      have hgo : ∀ s28 : Int64, s28.toInt = wv tp q (e + 1 - q) → K29 s28 := by
                        intro s28 h28
                        refine hK29 s28 ?_
                        intro z30 e30 z31 e31
                        have i31 : (gI z30 38 + (1 : Int32)).toInt = (e : Int) + 1 := a_add (by rw [e30]; exact h3) e1 (by omega) (by omega)
                        have t30 : TM z30 := by rw [e30]; exact Ty_wJ t10
                        refine ih9 (e + 1) z31 (by rw [e31]; exact Ty_wI t30 (show 0 ≤ (gI z30 38 + (1 : Int32)).toInt ∧ (gI z30 38 + (1 : Int32)).toInt ≤ 300 by omega)) ((s10.j e30).i (by decide) e31) (by rw [e31, e30]; exact h2) (by rw [e31]; exact i31) (by rw [e31, e30]; exact h9) (by omega) (by omega) ?_ (fun j g1 g2 => ?_) (by rw [e31, e30]; exact h28) (by omega)
                        · rw [← hrn, hst, if_pos ks]
                        · by_cases ej : j = e
                          · rw [ej]; exact ks
                          · exact hall j g1 (by omega)
                      have id : (gI z10 38 - gI z10 37).toInt = (e : Int) - (q : Int) := a_sub h3 h2 (by omega) (by omega)
                      refine ⟨fun c7 => hgo _ ?_, fun c7 => ⟨vin rfl (by omega) (by omega), hgo _ ?_⟩⟩
                      · have c7' := i_le (p := 7) rfl id c7
                        unfold wv; rw [if_neg (by omega)]; rfl
                      · have c7' := i_nle (p := 7) rfl id c7
                        rw [g2510, e10]
                        have lt := kd_1.mp ks
                        have hw' : (gJ z10 40).toInt = pk tp q (e - q) := by rw [hw]; unfold wv; rw [if_pos (by omega)]
                        have bd := pk_bd tp q (e - q) (by omega) (fun j g1 g2 => kd_1.mp (hall j g1 (by omega)))
                        have bd6 := bd.2.2 (by omega)
                        have im : (gJ z10 40 * (32 : Int64)).toInt = pk tp q (e - q) * 32 := lmul hw' rfl (by omega) (by omega)
                        have ia : (gJ z10 40 * (32 : Int64) + Int32.toInt64 (tp e)).toInt = pk tp q (e - q) * 32 + (tp e).toInt := a_addL im (a_wide rfl) (by omega) (by omega)
                        have is : (gJ z10 40 * (32 : Int64) + Int32.toInt64 (tp e) - (96 : Int64)).toInt = pk tp q (e - q) * 32 + (tp e).toInt - 96 := a_subL ia rfl (by omega) (by omega)
                        rw [is]
                        unfold wv
                        rw [if_pos (by omega), show e + 1 - q = (e - q) + 1 by omega]
                        show _ = pk tp q (e - q) * 32 + (tp (q + (e - q))).toInt - 96
                        rw [show q + (e - q) = e by omega]
                    · rw [g2510, e10] at ks
                      rw [← hrn, hst, if_neg ks]
              exact L9 _ q z8 t8 s8 b2 b3 b9 (Nat.le_refl _) hqL hE2.symm (fun j g1 g2 => absurd g2 (by omega)) (by rw [bw, Nat.sub_self]; rfl) (Nat.lt_succ_self _)
            · by_cases k2 : kd (tp q) = 2
              · -- digits
                have hso : so tp L (q, tE tp L q) = 2 := by unfold so; rw [if_neg (show ¬ L ≤ (q, tE tp L q).1 from hend), if_neg k1, if_pos k2]
                rw [hso] at hs6
                have q6 : s6 = 2 := toI_inj hs6
                rw [k2, if_neg (by decide)] at hE
                have hE2 : tE tp L q = rn tp 2 (L - q) q := by
                  rw [hE, show L - q = (L - (q + 1)) + 1 by omega]
                  show _ = if kd (tp q) = 2 then _ else _
                  rw [if_pos k2]
                refine ⟨fun _ => ?_, fun c => absurd (b9.symm.trans c) (by rw [q6]; decide)⟩
                refine hK9 z8 ?_
                intro K11 hK11
                have L11 : ∀ (n e : Nat) (z12 : St), TM z12 → Same [37, 38, 39] [] z z12 → (gI z12 37).toInt = (q : Int) → (gI z12 38).toInt = (e : Int) → gI z12 39 = s6 → q ≤ e → e ≤ L → rn tp 2 (L - e) e = tE tp L q → (∀ j, q ≤ j → j < e → kd (tp j) = 2) → (gJ z12 40).toInt = nv tp q (e - q) → L - e < n → K11 z12 := by
                  intro n
                  induction n with
                  | zero => intro e z12 _ _ _ _ _ _ _ _ _ _ hm; omega
                  | succ n ih11 =>
                    intro e z12 t12 s12 h2 h3 h9 he1 he2 hrn hall hw hm
                    have b1 : (gI z12 36).toInt = (L : Int) := (s12.fi 36 (by decide)).trans hL
                    have g2512 : gF z12 25 = tp := (s12.2 25 (by decide)).trans htp
                    have c12 := clampN (x := gI z12 38) (by omega)
                    have e12 : (gI z12 38).toNatClampNeg = e := by omega
                    have stop : e = tE tp L q → P z12 := by
                      intro he
                      refine fin z12 t12 s12 h2 (by rw [← he]; exact h3) h9 (fun _ => ⟨fun k => ?_, fun k => ?_, fun _ => ?_⟩)
                      · exact absurd (show kd (tp q) = 0 from k) (by rw [k2]; decide)
                      · exact absurd (show kd (tp q) = 1 from k) (by rw [k2]; decide)
                      · show (gJ z12 40).toInt = nv tp q (tE tp L q - q); rw [← he]; exact hw
                    refine hK11 z12 ⟨fun c => absurd (h9.trans q6) c, fun _ => ⟨fun c => stop ?_, fun c => ?_⟩⟩
                    · have c' := i_le rfl rfl c
                      rw [← hrn, show L - e = 0 by omega]; rfl
                    · have c' := i_nle rfl rfl c
                      have hst : rn tp 2 (L - e) e = if kd (tp e) = 2 then rn tp 2 (L - (e + 1)) (e + 1) else e := by
                        rw [show L - e = (L - (e + 1)) + 1 by omega]; rfl
                      refine ⟨vin rfl (by omega) (by omega), ?_⟩
                      refine v_X9_isDigit _ _ _ (fun ks => ⟨fun q' => absurd q' (by decide), fun _ => ?_⟩) (fun ks => ⟨fun _ => stop ?_, fun q' => absurd rfl q'⟩)
                      · rw [g2512, e12] at ks
                        have dg := kd_2.mp ks
                        have bd := cv_nv tp q (e - q) (fun j g1 g2 => kd_2.mp (hall j g1 (by omega)))
                        intro K19 hK19
                        have hgo : ∀ s18 : Int64, s18.toInt = nv tp q (e + 1 - q) → K19 s18 := by
                          intro s18 h18
                          refine hK19 s18 ?_
                          intro z20 e20 z21 e21
                          have i21 : (gI z20 38 + (1 : Int32)).toInt = (e : Int) + 1 := a_add (by rw [e20]; exact h3) e1 (by omega) (by omega)
                          have t20 : TM z20 := by rw [e20]; exact Ty_wJ t12
                          refine ih11 (e + 1) z21 (by rw [e21]; exact Ty_wI t20 (show 0 ≤ (gI z20 38 + (1 : Int32)).toInt ∧ (gI z20 38 + (1 : Int32)).toInt ≤ 300 by omega)) ((s12.j e20).i (by decide) e21) (by rw [e21, e20]; exact h2) (by rw [e21]; exact i21) (by rw [e21, e20]; exact h9) (by omega) (by omega) ?_ (fun j g1 g2 => ?_) (by rw [e21, e20]; exact h18) (by omega)
                          · rw [← hrn, hst, if_pos ks]
                          · by_cases ej : j = e
                            · rw [ej]; exact ks
                            · exact hall j g1 (by omega)
                        have hn : nv tp q (e + 1 - q) = if nv tp q (e - q) ≤ 10000 then nv tp q (e - q) * 10 + (tp e).toInt - 48 else nv tp q (e - q) := by
                          rw [show e + 1 - q = (e - q) + 1 by omega]
                          show (if nv tp q (e - q) ≤ 10000 then nv tp q (e - q) * 10 + (tp (q + (e - q))).toInt - 48 else nv tp q (e - q)) = _
                          rw [show q + (e - q) = e by omega]
                        refine ⟨fun cl => ⟨vin rfl (by omega) (by omega), hgo _ ?_⟩, fun cl => hgo _ ?_⟩
                        · have cl' : ¬ (10000 : Int64).toInt < (gJ z12 40).toInt := fun q' => absurd (lgc_gt.mpr q') (Int32.not_lt.mpr cl)
                          rw [show (10000 : Int64).toInt = 10000 from rfl, hw] at cl'
                          rw [hn, if_pos (by omega), g2512, e12]
                          have im : (gJ z12 40 * (10 : Int64)).toInt = nv tp q (e - q) * 10 := lmul hw rfl (by omega) (by omega)
                          have ia : (gJ z12 40 * (10 : Int64) + Int32.toInt64 (tp e)).toInt = nv tp q (e - q) * 10 + (tp e).toInt := a_addL im (a_wide rfl) (by omega) (by omega)
                          exact a_subL ia rfl (by omega) (by omega)
                        · have cl' : (10000 : Int64).toInt < (gJ z12 40).toInt := lgc_gt.mp (Int32.not_le.mp cl)
                          rw [show (10000 : Int64).toInt = 10000 from rfl, hw] at cl'
                          rw [hn, if_neg (by omega)]
                          exact hw
                      · rw [g2512, e12] at ks
                        rw [← hrn, hst, if_neg ks]
                have h11 := L11 _ q z8 t8 s8 b2 b3 b9 (Nat.le_refl _) hqL hE2.symm (fun j g1 g2 => absurd g2 (by omega)) (by rw [bw, Nat.sub_self]; rfl) (Nat.lt_succ_self _)
                exact ⟨fun _ => h11, fun c => absurd (b9.symm.trans c) (by rw [q6]; decide)⟩
              · -- a sign
                have k0 : kd (tp q) = 0 := by have := kd_le (tp q); omega
                have hso : so tp L (q, tE tp L q) = 3 := by unfold so; rw [if_neg (show ¬ L ≤ (q, tE tp L q).1 from hend), if_neg k1, if_neg k2]
                rw [hso] at hs6
                have q6 : s6 = 3 := toI_inj hs6
                rw [if_pos k0] at hE
                refine ⟨fun c => absurd (b9.trans q6) c, fun _ => ?_⟩
                have c8 := clampN (x := gI z8 37) (by omega)
                have e8' : (gI z8 37).toNatClampNeg = q := by omega
                refine ⟨vin rfl (by omega) (by omega), ?_⟩
                intro z34 e34 z35 e35
                have t34 : TM z34 := by rw [e34]; exact Ty_wJ t8
                have i35 : (gI z34 38 + (1 : Int32)).toInt = (q : Int) + 1 := a_add (by rw [e34]; exact b3) e1 (by omega) (by omega)
                refine past z35 (by rw [e35]; exact Ty_wI t34 (show 0 ≤ (gI z34 38 + (1 : Int32)).toInt ∧ (gI z34 38 + (1 : Int32)).toInt ≤ 300 by omega)) ((s8.j e34).i (by decide) e35) (by rw [e35, e34]; exact b2) (by rw [e35, hE]; exact i35) (by rw [e35, e34]; exact b9) (by rw [q6]; decide) (by rw [q6]; decide) (fun _ => ⟨fun _ => ?_, fun k => absurd k k1, fun k => absurd k k2⟩)
                rw [e35, e34]
                show Int32.toInt64 (gF z8 25 (gI z8 37).toNatClampNeg) = Int32.toInt64 (tp q)
                rw [e8', (s8.2 25 (by decide)).trans htp]
        refine ⟨fun c => ?_, fun c => ?_⟩
        · have c' := i_ne a2 g365 c
          have hv : vp_in (gI z5 37) 300 := vin rfl (by omega) (by omega)
          refine ⟨hv, ?_⟩
          rw [g255, eq5]
          refine v_X9_isSmall _ _ _ (fun ks => ⟨fun q' => absurd q' (by decide), fun _ => h7 _ ?_⟩) (fun ks => ⟨fun _ => ⟨hv, ?_⟩, fun q' => absurd rfl q'⟩)
          · unfold so; rw [if_neg (show ¬ L ≤ (q, tE tp L q).1 by show ¬ L ≤ q; omega), if_pos ks]; rfl
          · refine v_X9_isDigit _ _ _ (fun kt => ⟨fun q' => absurd q' (by decide), fun _ => h7 _ ?_⟩) (fun kt => ⟨fun _ => h7 _ ?_, fun q' => absurd rfl q'⟩)
            · unfold so; rw [if_neg (show ¬ L ≤ (q, tE tp L q).1 by show ¬ L ≤ q; omega), if_neg ks, if_pos kt]; rfl
            · unfold so; rw [if_neg (show ¬ L ≤ (q, tE tp L q).1 by show ¬ L ≤ q; omega), if_neg ks, if_neg kt]; rfl
        · have c' := i_eq a2 g365 c
          refine h7 _ ?_
          unfold so; rw [if_pos (show L ≤ (q, tE tp L q).1 by show L ≤ q; omega)]; rfl
      refine ⟨fun c => k3 ?_, fun c => ?_⟩
      · have c1 := i_le rfl rfl c
        rw [← hsk, show L - q = 0 by omega]; rfl
      · have c1 := i_nle rfl rfl c
        have hst : sk tp (L - q) q = if tp q = 32 then sk tp (L - (q + 1)) (q + 1) else q := by
          rw [show L - q = (L - (q + 1)) + 1 by omega]; rfl
        refine ⟨vin rfl (by omega) (by omega), fun c2 => k3 ?_, fun c2 => ?_⟩
        · rw [g25, eq] at c2
          rw [← hsk, hst, if_neg c2]
        · rw [g25, eq] at c2
          intro z19 e19
          have i19 : (gI z2 37 + (1 : Int32)).toInt = (q : Int) + 1 := a_add hq e1 (by omega) (by omega)
          refine ih (q + 1) z19 (by rw [e19]; exact Ty_wI t2 (show 0 ≤ (gI z2 37 + (1 : Int32)).toInt ∧ (gI z2 37 + (1 : Int32)).toInt ≤ 300 by omega)) (s2.i (by decide) e19) (by rw [e19]; exact i19) (by omega) ?_ (by omega)
          rw [← hsk, hst, if_pos c2]
  intro z20 e20
  have f3 : 0 ≤ (gI z 38).toInt ∧ (gI z 38).toInt ≤ 300 := ht.1 38
  exact L1 _ p z20 (by rw [e20]; exact Ty_wI ht f3) (Same.rf.i (by decide) e20) (by rw [e20]; exact hp) hpl rfl (Nat.lt_succ_self _)
