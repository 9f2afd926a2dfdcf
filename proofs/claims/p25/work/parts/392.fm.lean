-- FILLING, the reference
theorem gV_iff {r4 r26 r27 r32 : Nat → Int32} {s l x load : Int32} {M W fu ld : Int} (eM : (r27 s.toNatClampNeg).toInt = M) (eW : (r32 s.toNatClampNeg).toInt = W) (ef : (r4 (r26 s.toNatClampNeg).toNatClampNeg).toInt = fu) (el : load.toInt = ld) (hl : 0 ≤ l.toInt ∧ l.toInt ≤ 40) (hx : -10 ≤ x.toInt ∧ x.toInt ≤ 10) (hW : 1 ≤ W ∧ W ≤ 1000) (hld : 0 ≤ ld ∧ ld ≤ 100000) : ¬ gV r4 r26 r27 r32 s l x load = 0 ↔ ((0 ≤ l.toInt + x.toInt ∧ l.toInt + x.toInt ≤ M) ∧ (x.toInt = 0 ∨ (0 < x.toInt ∧ ld + x.toInt * W ≤ fu) ∨ (x.toInt < 0 ∧ -(x.toInt * W) ≤ ld))) := by
  have e00 : (0 : Int32).toInt = 0 := rfl
  have kx := xe_bd (e := W) hx (by omega)
  have ia : (l + x).toInt = l.toInt + x.toInt := a_add rfl rfl (by omega) (by omega)
  have im : (x * r32 s.toNatClampNeg).toInt = x.toInt * W := a_mul rfl eW (by omega) (by omega)
  have ing : (-(x * r32 s.toNatClampNeg)).toInt = -(x.toInt * W) := a_neg im (by omega) (by omega)
  have ild : (load + x * r32 s.toNatClampNeg).toInt = ld + x.toInt * W := a_add el im (by omega) (by omega)
  unfold gV
  rw [ia, eM]
  by_cases r : 0 ≤ l.toInt + x.toInt ∧ l.toInt + x.toInt ≤ M
  · rw [if_pos r]
    by_cases x0 : x = 0
    · have x0' : x.toInt = 0 := by rw [x0]; rfl
      rw [if_pos x0]
      exact ⟨fun _ => ⟨r, Or.inl x0'⟩, fun _ => by decide⟩
    · have x0' := i_ne (q := 0) rfl rfl x0
      rw [if_neg x0]
      by_cases xn : x ≤ 0
      · have xn' := i_le (q := 0) rfl rfl xn
        rw [if_pos xn]
        by_cases c : load < -(x * r32 s.toNatClampNeg)
        · have c' := i_lt el ing c
          rw [if_pos c]
          refine ⟨fun q => absurd rfl q, fun q => ?_⟩
          rcases q.2 with w | w | w <;> omega
        · have c' := i_nlt el ing c
          rw [if_neg c]
          exact ⟨fun _ => ⟨r, Or.inr (Or.inr ⟨by omega, by omega⟩)⟩, fun _ => by decide⟩
      · have xn' := i_nle (q := 0) rfl rfl xn
        rw [if_neg xn]
        by_cases c : r4 (r26 s.toNatClampNeg).toNatClampNeg < load + x * r32 s.toNatClampNeg
        · have c' := i_lt ef ild c
          rw [if_pos c]
          refine ⟨fun q => absurd rfl q, fun q => ?_⟩
          rcases q.2 with w | w | w <;> omega
        · have c' := i_nlt ef ild c
          rw [if_neg c]
          exact ⟨fun _ => ⟨r, Or.inr (Or.inl ⟨by omega, by omega⟩)⟩, fun _ => by decide⟩
  · rw [if_neg r]
    exact ⟨fun q => absurd rfl q, fun q => absurd q.1 r⟩
theorem aV_af {r31 : Nat → Int32} {s lx : Int32} {Ls : Int} (eL : (r31 s.toNatClampNeg).toInt = Ls) (h0 : 0 ≤ Ls ∧ Ls ≤ 3) (h1 : 0 ≤ lx.toInt ∧ lx.toInt ≤ 40) : (aV r31 s lx).toInt = af Ls lx.toInt := by
  unfold aV af
  by_cases c : r31 s.toNatClampNeg ≤ lx
  · have c' := i_le eL rfl c
    rw [if_pos c, if_pos c']
    exact a_sub rfl eL (by omega) (by omega)
  · have c' := i_nle eL rfl c
    rw [if_neg c, if_neg (by omega)]
    rfl
/-- one level of one hour: all moves are looked at */ -/
theorem fm_x (b1 v20 v72 r68 : Int32) (x71 : Int64) (z77 : St) (Q : St → Prop) (s i l : Nat) (M O I Ls W fu ld e : Int) (V : Int → Int → Prop) (t77 : TM z77) (hs : b1.toInt = (s : Int)) (h5 : s ≤ 5) (hi : v20.toInt = (i : Int)) (hi47 : i ≤ 47) (hl : v72.toInt = (l : Int)) (hlM : (l : Int) ≤ M) (eM : (gF z77 27 s).toInt = M) (eO : (gF z77 30 s).toInt = O) (eI : (gF z77 29 s).toInt = I) (eL : (gF z77 31 s).toInt = Ls) (eW : (gF z77 32 s).toInt = W) (ef : (gF z77 4 (gF z77 26 s).toNatClampNeg).toInt = fu) (el : r68.toInt = ld) (e71 : x71.toInt = e) (hW : 1 ≤ W ∧ W ≤ 1000) (hld : 0 ≤ ld ∧ ld ≤ 100000) (he : -10000000 ≤ e ∧ e ≤ 10000000) (fV : ∀ l c c', V l c → V l c' → c = c') (bV : ∀ l c, V l c → -5000000000 ≤ c ∧ c ≤ 5000000000) (hlt : ∀ k : Nat, (k : Int) ≤ M → (gF z77 34 (41 * i + 41 + k) = 0 ∧ ∀ c, ¬ V (k : Int) c) ∨ (¬ gF z77 34 (41 * i + 41 + k) = 0 ∧ V (k : Int) (gG z77 33 (41 * i + 41 + k)).toInt)) (h0 : gF z77 34 (41 * i + l) = 0) (hk : ∀ z2 : St, TM z2 → Same [] [34] z77 z2 → (∀ k, k ≠ 41 * i + l → gF z2 34 k = gF z77 34 k ∧ gG z2 33 k = gG z77 33 k) → ((gF z2 34 (41 * i + l) = 0 ∧ ∀ x c, ¬ AV (gO M O I W fu ld) e Ls V (l : Int) x c) ∨ (¬ gF z2 34 (41 * i + l) = 0 ∧ ∃ x, FM (AV (gO M O I W fu ld) e Ls V (l : Int)) (gG z2 33 (41 * i + l)).toInt x)) → Q z2) : ∀ K79 : Int32 → St → Prop, (∀ (v78 : Int32) (z80 : St), (vp_in b1 6 ∧ ((((gF z80 29 b1.toNatClampNeg) < v78) → (Q z80)) ∧ (¬ ((gF z80 29 b1.toNatClampNeg) < v78) → (wp_X9_goes b1 v72 v78 ((gI z80 2) + v20) r68 z80 (fun r84 => (∀ K85 : St → Prop, (∀ (z86 : St), (∀ x87 : Int32, x87 = v78 + (1) → K79 x87 z86) → K85 z86) → (((¬ r84 = 0) → (wp_X9_afterwards b1 (v72 + v78) z80 (fun r90 => (∀ x91 : Int32, x91 = ((((41 : Int32)) * v20) + ((41 : Int32))) + r90 → (vp_in x91 2009 ∧ ((((gF z80 34 x91.toNatClampNeg) = 0) → K85 z80) ∧ (¬ ((gF z80 34 x91.toNatClampNeg) = 0) → (vp_in ((((41 : Int32)) * v20) + v72) 2009 ∧ (∀ K93 : Prop, ((vp_in ((((41 : Int32)) * v20) + v72) 2009 ∧ (∀ z94 : St, z94 = wR z80 34 (upd (gF z80 34) ((((41 : Int32)) * v20) + v72).toNatClampNeg (vp_nar .boolean ((1 : Int32)))) → (vp_in x91 2009 ∧ (vp_in ((((41 : Int32)) * v20) + v72) 2009 ∧ (∀ z95 : St, z95 = wL z94 33 (vp_updL (gG z94 33) ((((41 : Int32)) * v20) + v72).toNatClampNeg ((gG z94 33 x91.toNatClampNeg) + ((Int32.toInt64 v78) * x71))) → K85 z95))))) → K93) → ((((gF z80 34 ((((41 : Int32)) * v20) + v72).toNatClampNeg) = 0) → K93) ∧ (¬ ((gF z80 34 ((((41 : Int32)) * v20) + v72).toNatClampNeg) = 0) → (vp_in x91 2009 ∧ (vp_in ((((41 : Int32)) * v20) + v72) 2009 ∧ (((0 ≤ (lg_cmp ((gG z80 33 x91.toNatClampNeg) + ((Int32.toInt64 v78) * x71)) (gG z80 33 ((((41 : Int32)) * v20) + v72).toNatClampNeg))) → K85 z80) ∧ (¬ (0 ≤ (lg_cmp ((gG z80 33 x91.toNatClampNeg) + ((Int32.toInt64 v78) * x71)) (gG z80 33 ((((41 : Int32)) * v20) + v72).toNatClampNeg))) → K93))))))))))))))) ∧ (r84 = 0 → K85 z80)))))))) → K79 v78 z80) → (∀ x98 : Int32, x98 = -(gF z77 30 b1.toNatClampNeg) → K79 x98 z77) := by
  have f27 : 0 ≤ (gF z77 27 s).toInt ∧ (gF z77 27 s).toInt ≤ 40 := t77.2 27 _
  have f29 : 0 ≤ (gF z77 29 s).toInt ∧ (gF z77 29 s).toInt ≤ 10 := t77.2 29 _
  have f30 : 0 ≤ (gF z77 30 s).toInt ∧ (gF z77 30 s).toInt ≤ 10 := t77.2 30 _
  have f31 : 0 ≤ (gF z77 31 s).toInt ∧ (gF z77 31 s).toInt ≤ 3 := t77.2 31 _
  have e01 : (1 : Int32).toInt = 1 := rfl
  have c1 : b1.toNatClampNeg = s := by
    have := clampN (x := b1) (by omega)
    omega
  have hv1 : vp_in b1 6 := vin hs (by omega) (by omega)
  have ixl : ((41 : Int32) * v20 + v72).toInt = 41 * (i : Int) + (l : Int) := a_add (a_mul (show (41 : Int32).toInt = 41 from rfl) hi (by omega) (by omega)) hl (by omega) (by omega)
  have cxl : ((41 : Int32) * v20 + v72).toNatClampNeg = 41 * i + l := by
    have := clampN (x := (41 : Int32) * v20 + v72) (by omega)
    omega
  have hvl : vp_in ((41 : Int32) * v20 + v72) 2009 := vin ixl (by omega) (by omega)
  have i41 : ((41 : Int32) * v20 + (41 : Int32)).toInt = 41 * (i : Int) + 41 := a_add (a_mul (show (41 : Int32).toInt = 41 from rfl) hi (by omega) (by omega)) (show (41 : Int32).toInt = 41 from rfl) (by omega) (by omega)
  have fA : ∀ x c c', AV (gO M O I W fu ld) e Ls V (l : Int) x c → AV (gO M O I W fu ld) e Ls V (l : Int) x c' → c = c' := fun x c c' h h' => AV_uniq fV h h'
  intro K79 hK79
  rw [c1, cxl] at hK79
  have LL : ∀ (n : Nat) (v78 : Int32) (z80 : St), TM z80 → Same [] [34] z77 z80 → (∀ k, k ≠ 41 * i + l → gF z80 34 k = gF z77 34 k ∧ gG z80 33 k = gG z77 33 k) → -O ≤ v78.toInt → v78.toInt ≤ I + 1 → ((gF z80 34 (41 * i + l) = 0 ∧ NP (AV (gO M O I W fu ld) e Ls V (l : Int)) v78.toInt) ∨ (¬ gF z80 34 (41 * i + l) = 0 ∧ ∃ x, FP (AV (gO M O I W fu ld) e Ls V (l : Int)) v78.toInt (gG z80 33 (41 * i + l)).toInt x)) → (I + 1 - v78.toInt).toNat < n → K79 v78 z80 := by
    intro n
    induction n with
    | zero => intro v78 z80 _ _ _ _ _ _ q; omega
    | succ n ih =>
      intro v78 z80 t80 s80 o80 k0 k1 st gm
      have hb : ∀ x c, AV (gO M O I W fu ld) e Ls V (l : Int) x c → x ≤ I := fun x c h => h.1.1.2
      refine hK79 v78 z80 ⟨hv1, fun c => ?_, fun c => ?_⟩
      · rw [s80.2 29 (by decide)] at c
        have c' := i_lt eI rfl c
        refine hk z80 t80 s80 o80 ?_
        rcases st with ⟨s1, s2⟩ | ⟨s1, x, s2⟩
        · exact Or.inl ⟨s1, NP_end s2 (fun x c h => by have := hb x c h; omega)⟩
        · exact Or.inr ⟨s1, x, FP_end s2 (fun x c h => by have := hb x c h; omega)⟩
      · rw [s80.2 29 (by decide)] at c
        have c' := i_nlt eI rfl c
        have gi := gV_iff (r4 := gF z77 4) (r26 := gF z77 26) (r27 := gF z77 27) (r32 := gF z77 32) (s := b1) (l := v72) (x := v78) (load := r68) (M := M) (W := W) (fu := fu) (ld := ld) (by rw [c1]; exact eM) (by rw [c1]; exact eW) (by rw [c1]; exact ef) el (by omega) (by omega) hW hld
        rw [hl] at gi
        refine v_X9_goes _ _ _ _ _ z80 _ t80 (by omega) ?_
        rw [s80.2 4 (by decide), s80.2 26 (by decide), s80.2 27 (by decide), s80.2 32 (by decide)]
        intro K85 hK85
        have next : ∀ z86 : St, TM z86 → Same [] [34] z77 z86 → (∀ k, k ≠ 41 * i + l → gF z86 34 k = gF z77 34 k ∧ gG z86 33 k = gG z77 33 k) → ((gF z86 34 (41 * i + l) = 0 ∧ NP (AV (gO M O I W fu ld) e Ls V (l : Int)) (v78.toInt + 1)) ∨ (¬ gF z86 34 (41 * i + l) = 0 ∧ ∃ x, FP (AV (gO M O I W fu ld) e Ls V (l : Int)) (v78.toInt + 1) (gG z86 33 (41 * i + l)).toInt x)) → K85 z86 := by
          intro z86 t86 s86 o86 st86
          refine hK85 z86 (fun x87 e87 => ?_)
          have i87 : x87.toInt = v78.toInt + 1 := by rw [e87]; exact a_add rfl e01 (by omega) (by omega)
          exact ih x87 z86 t86 s86 o86 (by omega) (by omega) (by rw [i87]; exact st86) (by omega)
        have skip : (∀ c, ¬ AV (gO M O I W fu ld) e Ls V (l : Int) v78.toInt c) → K85 z80 := by
          intro na
          refine next z80 t80 s80 o80 ?_
          rcases st with ⟨s1, s2⟩ | ⟨s1, x, s2⟩
          · exact Or.inl ⟨s1, NP_skip s2 na⟩
          · exact Or.inr ⟨s1, x, FP_skip s2 na⟩
        refine ⟨fun cg => ?_, fun cg => skip (fun c h => (gi.mpr h.1.2) cg)⟩
        have gg := gi.mp cg
        have gx : gO M O I W fu ld (l : Int) v78.toInt := ⟨⟨k0, c'⟩, gg⟩
        have ia : (v72 + v78).toInt = (l : Int) + v78.toInt := a_add hl rfl (by omega) (by omega)
        have iaf : (aV (gF z77 31) b1 (v72 + v78)).toInt = af Ls ((l : Int) + v78.toInt) := by
          rw [← ia]
          exact aV_af (by rw [c1]; exact eL) (by omega) (by omega)
        have fa := af_in (Ls := Ls) (l := (l : Int) + v78.toInt) (M := M) (by omega) gg.1
        refine v_X9_afterwards _ _ z80 _ (by omega) ?_
        rw [s80.2 31 (by decide)]
        intro x91 e91
        have i91 : x91.toInt = 41 * (i : Int) + 41 + af Ls ((l : Int) + v78.toInt) := by rw [e91]; exact a_add i41 iaf (by omega) (by omega)
        have c91 := clampN (x := x91) (by omega)
        obtain ⟨k, hkk⟩ : ∃ k : Nat, (k : Int) = af Ls ((l : Int) + v78.toInt) := ⟨(af Ls ((l : Int) + v78.toInt)).toNat, by omega⟩
        have ck : x91.toNatClampNeg = 41 * i + 41 + k := by omega
        have hv91 : vp_in x91 2009 := vin i91 (by omega) (by omega)
        have oo := o80 (41 * i + 41 + k) (by omega)
        have lt := hlt k (by omega)
        rw [hkk] at lt
        rw [ck]
        refine ⟨hv91, fun cz => ?_, fun cz => ⟨hvl, ?_⟩⟩
        · rw [oo.1] at cz
          rcases lt with q | q
          · exact skip (fun c h => by
              obtain ⟨_, v, hv, _⟩ := h
              exact q.2 v hv)
          · exact absurd cz q.1
        · rw [oo.1] at cz
          have vv : V (af Ls ((l : Int) + v78.toInt)) (gG z77 33 (41 * i + 41 + k)).toInt := by
            rcases lt with q | q
            · exact absurd q.1 cz
            · exact q.2
          have bv := bV _ _ vv
          have kx := xe_bd (x := v78.toInt) (by omega) he
          have im : (Int32.toInt64 v78 * x71).toInt = v78.toInt * e := lmul (a_wide rfl) e71 (by omega) (by omega)
          have ic : (gG z77 33 (41 * i + 41 + k) + Int32.toInt64 v78 * x71).toInt = (gG z77 33 (41 * i + 41 + k)).toInt + v78.toInt * e := a_addL rfl im (by omega) (by omega)
          have av : AV (gO M O I W fu ld) e Ls V (l : Int) v78.toInt ((gG z77 33 (41 * i + 41 + k)).toInt + v78.toInt * e) := ⟨gx, _, vv, rfl⟩
          rw [oo.2]
          intro K93 hK93
          have set : FP (AV (gO M O I W fu ld) e Ls V (l : Int)) (v78.toInt + 1) ((gG z77 33 (41 * i + 41 + k)).toInt + v78.toInt * e) v78.toInt → K93 := by
            intro fp
            refine hK93 ⟨hvl, ?_⟩
            intro z94 e94
            refine ⟨hv91, hvl, ?_⟩
            intro z95 e95
            have y33 : gG z94 33 = gG z80 33 := by rw [e94]; rfl
            rw [y33, oo.2] at e95
            have t94 : TM z94 := by rw [e94]; exact Ty_wR t80 trivial
            have w33 : gG z95 33 (41 * i + l) = gG z77 33 (41 * i + 41 + k) + Int32.toInt64 v78 * x71 := by
              rw [e95, gG_wL]
              show (if 41 * i + l = 41 * i + l then _ else _) = _
              rw [if_pos rfl]
            have w34 : gF z95 34 (41 * i + l) = vp_nar .boolean (1 : Int32) := by
              rw [e95]
              show gF z94 34 _ = _
              rw [e94, gF_upd, if_pos rfl]
            refine next z95 (by rw [e95]; exact Ty_wL t94) ((s80.r (by decide) e94).l e95) (fun j hj => ⟨?_, ?_⟩) (Or.inr ⟨by rw [w34]; exact narB1, v78.toInt, by rw [w33, ic]; exact fp⟩)
            · rw [e95]
              show gF z94 34 j = _
              rw [e94, gF_upd, if_neg hj]; exact (o80 j hj).1
            · rw [e95, gG_wL]
              show (if j = 41 * i + l then _ else gG z80 33 j) = _
              rw [if_neg hj]; exact (o80 j hj).2
          refine ⟨fun c0 => set ?_, fun c0 => ⟨hv91, hvl, fun cl => ?_, fun cl => set ?_⟩⟩
          · rcases st with ⟨s1, s2⟩ | ⟨s1, x, s2⟩
            · exact NP_new fA s2 av
            · exact absurd c0 s1
          · have cl' := lgc_ge cl
            rw [ic] at cl'
            refine next z80 t80 s80 o80 ?_
            rcases st with ⟨s1, s2⟩ | ⟨s1, x, s2⟩
            · exact absurd s1 c0
            · exact Or.inr ⟨s1, x, FP_keep fA s2 av (by omega)⟩
          · have cl' := lgc_nge cl
            rw [ic] at cl'
            rcases st with ⟨s1, s2⟩ | ⟨s1, x, s2⟩
            · exact absurd s1 c0
            · exact FP_new fA s2 av cl'
  intro x98 e98
  have i98 : x98.toInt = -O := by rw [e98, c1]; exact a_neg eO (by omega) (by omega)
  refine LL _ x98 z77 t77 Same.rf (fun _ _ => ⟨rfl, rfl⟩) (by omega) (by omega) (Or.inl ⟨h0, fun x c hx h => ?_⟩) (Nat.lt_succ_self _)
  have := h.1.1.1
  omega
/-- one hour: all levels -/
theorem fm_l (b1 v20 x15 r68 : Int32) (x71 : Int64) (z22 : St) (Q : St → Prop) (s i : Nat) (M O I Ls W fu ld e : Int) (V : Int → Int → Prop) (t22 : TM z22) (hs : b1.toInt = (s : Int)) (h5 : s ≤ 5) (hi : v20.toInt = (i : Int)) (hi47 : i ≤ 47) (h15 : x15.toInt = M + 1) (eM : (gF z22 27 s).toInt = M) (eO : (gF z22 30 s).toInt = O) (eI : (gF z22 29 s).toInt = I) (eL : (gF z22 31 s).toInt = Ls) (eW : (gF z22 32 s).toInt = W) (ef : (gF z22 4 (gF z22 26 s).toNatClampNeg).toInt = fu) (el : r68.toInt = ld) (e71 : x71.toInt = e) (hW : 1 ≤ W ∧ W ≤ 1000) (hld : 0 ≤ ld ∧ ld ≤ 100000) (he : -10000000 ≤ e ∧ e ≤ 10000000) (fV : ∀ l c c', V l c → V l c' → c = c') (bV : ∀ l c, V l c → -5000000000 ≤ c ∧ c ≤ 5000000000) (hlt : ∀ k : Nat, (k : Int) ≤ M → (gF z22 34 (41 * i + 41 + k) = 0 ∧ ∀ c, ¬ V (k : Int) c) ∨ (¬ gF z22 34 (41 * i + 41 + k) = 0 ∧ V (k : Int) (gG z22 33 (41 * i + 41 + k)).toInt)) (hk : ∀ z2 : St, TM z2 → Same [] [34] z22 z2 → (∀ k, 41 * i + 41 ≤ k → gF z2 34 k = gF z22 34 k ∧ gG z2 33 k = gG z22 33 k) → (∀ k : Nat, (k : Int) ≤ M → (gF z2 34 (41 * i + k) = 0 ∧ ∀ x c, ¬ AV (gO M O I W fu ld) e Ls V (k : Int) x c) ∨ (¬ gF z2 34 (41 * i + k) = 0 ∧ ∃ x, FM (AV (gO M O I W fu ld) e Ls V (k : Int)) (gG z2 33 (41 * i + k)).toInt x)) → Q z2) : ∀ K73 : Int32 → St → Prop, (∀ (v72 : Int32) (z74 : St), (((x15 ≤ v72) → (Q z74)) ∧ (¬ (x15 ≤ v72) → (vp_in ((((41 : Int32)) * v20) + v72) 2009 ∧ (∀ z77 : St, z77 = wR z74 34 (upd (gF z74 34) ((((41 : Int32)) * v20) + v72).toNatClampNeg (vp_nar .boolean ((0 : Int32)))) → (vp_in b1 6 ∧ (∀ K79 : Int32 → St → Prop, (∀ (v78 : Int32) (z80 : St), (vp_in b1 6 ∧ ((((gF z80 29 b1.toNatClampNeg) < v78) → (∀ x82 : Int32, x82 = v72 + (1) → K73 x82 z80)) ∧ (¬ ((gF z80 29 b1.toNatClampNeg) < v78) → (wp_X9_goes b1 v72 v78 ((gI z80 2) + v20) r68 z80 (fun r84 => (∀ K85 : St → Prop, (∀ (z86 : St), (∀ x87 : Int32, x87 = v78 + (1) → K79 x87 z86) → K85 z86) → (((¬ r84 = 0) → (wp_X9_afterwards b1 (v72 + v78) z80 (fun r90 => (∀ x91 : Int32, x91 = ((((41 : Int32)) * v20) + ((41 : Int32))) + r90 → (vp_in x91 2009 ∧ ((((gF z80 34 x91.toNatClampNeg) = 0) → K85 z80) ∧ (¬ ((gF z80 34 x91.toNatClampNeg) = 0) → (vp_in ((((41 : Int32)) * v20) + v72) 2009 ∧ (∀ K93 : Prop, ((vp_in ((((41 : Int32)) * v20) + v72) 2009 ∧ (∀ z94 : St, z94 = wR z80 34 (upd (gF z80 34) ((((41 : Int32)) * v20) + v72).toNatClampNeg (vp_nar .boolean ((1 : Int32)))) → (vp_in x91 2009 ∧ (vp_in ((((41 : Int32)) * v20) + v72) 2009 ∧ (∀ z95 : St, z95 = wL z94 33 (vp_updL (gG z94 33) ((((41 : Int32)) * v20) + v72).toNatClampNeg ((gG z94 33 x91.toNatClampNeg) + ((Int32.toInt64 v78) * x71))) → K85 z95))))) → K93) → ((((gF z80 34 ((((41 : Int32)) * v20) + v72).toNatClampNeg) = 0) → K93) ∧ (¬ ((gF z80 34 ((((41 : Int32)) * v20) + v72).toNatClampNeg) = 0) → (vp_in x91 2009 ∧ (vp_in ((((41 : Int32)) * v20) + v72) 2009 ∧ (((0 ≤ (lg_cmp ((gG z80 33 x91.toNatClampNeg) + ((Int32.toInt64 v78) * x71)) (gG z80 33 ((((41 : Int32)) * v20) + v72).toNatClampNeg))) → K85 z80) ∧ (¬ (0 ≤ (lg_cmp ((gG z80 33 x91.toNatClampNeg) + ((Int32.toInt64 v78) * x71)) (gG z80 33 ((((41 : Int32)) * v20) + v72).toNatClampNeg))) → K93))))))))))))))) ∧ (r84 = 0 → K85 z80)))))))) → K79 v78 z80) → (∀ x98 : Int32, x98 = -(gF z77 30 b1.toNatClampNeg) → K79 x98 z77))))))) → K73 v72 z74) → K73 ((0 : Int32)) z22 := by
  have f27 : 0 ≤ (gF z22 27 s).toInt ∧ (gF z22 27 s).toInt ≤ 40 := t22.2 27 _
  have e01 : (1 : Int32).toInt = 1 := rfl
  have e00 : (0 : Int32).toInt = 0 := rfl
  have hv1 : vp_in b1 6 := vin hs (by omega) (by omega)
  intro K73 hK73
  have LL : ∀ (n : Nat) (v72 : Int32) (z74 : St), TM z74 → Same [] [34] z22 z74 → 0 ≤ v72.toInt → v72.toInt ≤ M + 1 → (∀ k, 41 * i + 41 ≤ k → gF z74 34 k = gF z22 34 k ∧ gG z74 33 k = gG z22 33 k) → (∀ k : Nat, (k : Int) < v72.toInt → (gF z74 34 (41 * i + k) = 0 ∧ ∀ x c, ¬ AV (gO M O I W fu ld) e Ls V (k : Int) x c) ∨ (¬ gF z74 34 (41 * i + k) = 0 ∧ ∃ x, FM (AV (gO M O I W fu ld) e Ls V (k : Int)) (gG z74 33 (41 * i + k)).toInt x)) → (M + 1 - v72.toInt).toNat < n → K73 v72 z74 := by
    intro n
    induction n with
    | zero => intro v72 z74 _ _ _ _ _ _ q; omega
    | succ n ih =>
      intro v72 z74 t74 s74 g0 g1 o74 done gm
      have cv := clampN g0
      refine hK73 v72 z74 ⟨fun c => ?_, fun c => ?_⟩
      · have c' := i_le h15 rfl c
        exact hk z74 t74 s74 o74 (fun k hk' => done k (by omega))
      · have c' := i_nle h15 rfl c
        have ixl : ((41 : Int32) * v20 + v72).toInt = 41 * (i : Int) + v72.toInt := a_add (a_mul (show (41 : Int32).toInt = 41 from rfl) hi (by omega) (by omega)) rfl (by omega) (by omega)
        have cxl : ((41 : Int32) * v20 + v72).toNatClampNeg = 41 * i + v72.toNatClampNeg := by
          have := clampN (x := (41 : Int32) * v20 + v72) (by omega)
          omega
        refine ⟨vin ixl (by omega) (by omega), ?_⟩
        intro z77 e77
        have e77' := e77
        rw [cxl] at e77'
        have t77 : TM z77 := by rw [e77]; exact Ty_wR t74 trivial
        have s77 : Same [] [34] z22 z77 := s74.r (by decide) e77
        have w34 : ∀ k, gF z77 34 k = if k = 41 * i + v72.toNatClampNeg then 0 else gF z74 34 k := by
          intro k
          rw [e77', gF_upd, narB0]
        have w33 : gG z77 33 = gG z74 33 := by rw [e77]; rfl
        refine ⟨hv1, fm_x b1 v20 v72 r68 x71 z77 _ s i v72.toNatClampNeg M O I Ls W fu ld e V t77 hs h5 hi hi47 cv.symm (by omega) (by rw [s77.2 27 (by decide)]; exact eM) (by rw [s77.2 30 (by decide)]; exact eO) (by rw [s77.2 29 (by decide)]; exact eI) (by rw [s77.2 31 (by decide)]; exact eL) (by rw [s77.2 32 (by decide)]; exact eW) (by rw [s77.2 26 (by decide), s77.2 4 (by decide)]; exact ef) el e71 hW hld he fV bV (fun k hk' => ?_) (by rw [w34, if_pos rfl]) (fun z80 t80 s80 o80 res => ?_)⟩
        · rw [w34, if_neg (by omega), w33, (o74 _ (by omega)).1, (o74 _ (by omega)).2]
          exact hlt k hk'
        · intro x82 e82
          have i82 : x82.toInt = v72.toInt + 1 := by rw [e82]; exact a_add rfl e01 (by omega) (by omega)
          refine ih x82 z80 t80 (s77.tr s80 (by decide) (by decide)) (by omega) (by omega) (fun k hk' => ?_) (fun k hk' => ?_) (by omega)
          · have p := o80 k (by omega)
            rw [p.1, p.2, w34, if_neg (by omega), w33]
            exact o74 k hk'
          · by_cases ek : k = v72.toNatClampNeg
            · rw [ek]; exact res
            · have p := o80 (41 * i + k) (by omega)
              rw [p.1, p.2, w34, if_neg (by omega), w33]
              exact done k (by omega)
  exact LL _ 0 z22 t22 Same.rf (by decide) (by omega) (fun _ _ => ⟨rfl, rfl⟩) (fun k hk' => absurd hk' (by omega)) (Nat.lt_succ_self _)
/-- the table, from the last hour back -/
theorem fm_t (b1 b2 x15 : Int32) (z18 : St) (Q : St → Prop) (s nw n : Nat) (M O I Ls W fu wish : Int) (ld pr : Nat → Int) (t18 : TM z18) (hs : b1.toInt = (s : Int)) (h5 : s ≤ 5) (hnw : (gI z18 2).toInt = (nw : Int)) (hn : b2.toInt = (n : Int)) (h1 : 1 ≤ n) (h48 : n ≤ 48) (h168 : nw + n ≤ 168) (eM : (gF z18 27 s).toInt = M) (eO : (gF z18 30 s).toInt = O) (eI : (gF z18 29 s).toInt = I) (eL : (gF z18 31 s).toInt = Ls) (eW : (gF z18 32 s).toInt = W) (ef : (gF z18 4 (gF z18 26 s).toNatClampNeg).toInt = fu) (ed : ∀ h : Nat, h < 168 → (LD z18 (gF z18 26 s) (nI h) (-1)).toInt = ld h) (ep : ∀ h : Nat, h < 168 → (PR z18 (nI h) (gI z18 2)).toInt = pr h) (hW : 1 ≤ W ∧ W ≤ 1000) (hfu : 0 ≤ fu ∧ fu ≤ 20000) (hld : ∀ h : Nat, h < 168 → 0 ≤ ld h ∧ ld h ≤ 100000) (hpr : ∀ h : Nat, h < 168 → -1000 ≤ pr h ∧ pr h ≤ 10000) (h15 : x15.toInt = M + 1) (hlt : (∀ i, n ≤ i → i ≤ n → ∀ k : Nat, (k : Int) ≤ M → (gF z18 34 (41 * i + k) = 0 ∧ ∀ c, ¬ VR (GT M O I W fu ld (nw + n - 1)) (eT W pr (nw + n - 1)) Ls wish (n - i) (k : Int) c) ∨ (¬ gF z18 34 (41 * i + k) = 0 ∧ VR (GT M O I W fu ld (nw + n - 1)) (eT W pr (nw + n - 1)) Ls wish (n - i) (k : Int) (gG z18 33 (41 * i + k)).toInt))) (hk : ∀ z2 : St, TM z2 → Same [] [34] z18 z2 → (∀ i, 0 ≤ i → i ≤ n → ∀ k : Nat, (k : Int) ≤ M → (gF z2 34 (41 * i + k) = 0 ∧ ∀ c, ¬ VR (GT M O I W fu ld (nw + n - 1)) (eT W pr (nw + n - 1)) Ls wish (n - i) (k : Int) c) ∨ (¬ gF z2 34 (41 * i + k) = 0 ∧ VR (GT M O I W fu ld (nw + n - 1)) (eT W pr (nw + n - 1)) Ls wish (n - i) (k : Int) (gG z2 33 (41 * i + k)).toInt)) → Q z2) : ∀ K21 : Int32 → St → Prop, (∀ (v20 : Int32) (z22 : St), (((v20 < 0) → (Q z22)) ∧ (¬ (v20 < 0) → (vp_in b1 6 ∧ (wp_X9_loadOf (gF z22 26 b1.toNatClampNeg) ((gI z22 2) + v20) ((-1 : Int32)) z22 (fun r68 => (wp_X9_priceOf ((gI z22 2) + v20) (gI z22 2) z22 (fun r70 => (vp_in b1 6 ∧ (∀ x71 : Int64, x71 = (Int32.toInt64 r70) * (Int32.toInt64 (gF z22 32 b1.toNatClampNeg)) → (∀ K73 : Int32 → St → Prop, (∀ (v72 : Int32) (z74 : St), (((x15 ≤ v72) → (∀ x76 : Int32, x76 = v20 + (-1) → K21 x76 z74)) ∧ (¬ (x15 ≤ v72) → (vp_in ((((41 : Int32)) * v20) + v72) 2009 ∧ (∀ z77 : St, z77 = wR z74 34 (upd (gF z74 34) ((((41 : Int32)) * v20) + v72).toNatClampNeg (vp_nar .boolean ((0 : Int32)))) → (vp_in b1 6 ∧ (∀ K79 : Int32 → St → Prop, (∀ (v78 : Int32) (z80 : St), (vp_in b1 6 ∧ ((((gF z80 29 b1.toNatClampNeg) < v78) → (∀ x82 : Int32, x82 = v72 + (1) → K73 x82 z80)) ∧ (¬ ((gF z80 29 b1.toNatClampNeg) < v78) → (wp_X9_goes b1 v72 v78 ((gI z80 2) + v20) r68 z80 (fun r84 => (∀ K85 : St → Prop, (∀ (z86 : St), (∀ x87 : Int32, x87 = v78 + (1) → K79 x87 z86) → K85 z86) → (((¬ r84 = 0) → (wp_X9_afterwards b1 (v72 + v78) z80 (fun r90 => (∀ x91 : Int32, x91 = ((((41 : Int32)) * v20) + ((41 : Int32))) + r90 → (vp_in x91 2009 ∧ ((((gF z80 34 x91.toNatClampNeg) = 0) → K85 z80) ∧ (¬ ((gF z80 34 x91.toNatClampNeg) = 0) → (vp_in ((((41 : Int32)) * v20) + v72) 2009 ∧ (∀ K93 : Prop, ((vp_in ((((41 : Int32)) * v20) + v72) 2009 ∧ (∀ z94 : St, z94 = wR z80 34 (upd (gF z80 34) ((((41 : Int32)) * v20) + v72).toNatClampNeg (vp_nar .boolean ((1 : Int32)))) → (vp_in x91 2009 ∧ (vp_in ((((41 : Int32)) * v20) + v72) 2009 ∧ (∀ z95 : St, z95 = wL z94 33 (vp_updL (gG z94 33) ((((41 : Int32)) * v20) + v72).toNatClampNeg ((gG z94 33 x91.toNatClampNeg) + ((Int32.toInt64 v78) * x71))) → K85 z95))))) → K93) → ((((gF z80 34 ((((41 : Int32)) * v20) + v72).toNatClampNeg) = 0) → K93) ∧ (¬ ((gF z80 34 ((((41 : Int32)) * v20) + v72).toNatClampNeg) = 0) → (vp_in x91 2009 ∧ (vp_in ((((41 : Int32)) * v20) + v72) 2009 ∧ (((0 ≤ (lg_cmp ((gG z80 33 x91.toNatClampNeg) + ((Int32.toInt64 v78) * x71)) (gG z80 33 ((((41 : Int32)) * v20) + v72).toNatClampNeg))) → K85 z80) ∧ (¬ (0 ≤ (lg_cmp ((gG z80 33 x91.toNatClampNeg) + ((Int32.toInt64 v78) * x71)) (gG z80 33 ((((41 : Int32)) * v20) + v72).toNatClampNeg))) → K93))))))))))))))) ∧ (r84 = 0 → K85 z80)))))))) → K79 v78 z80) → (∀ x98 : Int32, x98 = -(gF z77 30 b1.toNatClampNeg) → K79 x98 z77))))))) → K73 v72 z74) → K73 ((0 : Int32)) z22)))))))))) → K21 v20 z22) → (∀ x99 : Int32, x99 = b2 - ((1 : Int32)) → K21 x99 z18) := by
  have f27 : 0 ≤ (gF z18 27 s).toInt ∧ (gF z18 27 s).toInt ≤ 40 := t18.2 27 _
  have f26 : 0 ≤ (gF z18 26 s).toInt ∧ (gF z18 26 s).toInt ≤ 3 := t18.2 26 _
  have f29 : 0 ≤ (gF z18 29 s).toInt ∧ (gF z18 29 s).toInt ≤ 10 := t18.2 29 _
  have f30 : 0 ≤ (gF z18 30 s).toInt ∧ (gF z18 30 s).toInt ≤ 10 := t18.2 30 _
  have f31 : 0 ≤ (gF z18 31 s).toInt ∧ (gF z18 31 s).toInt ≤ 3 := t18.2 31 _
  have e01 : (1 : Int32).toInt = 1 := rfl
  have e00 : (0 : Int32).toInt = 0 := rfl
  have em1 : (-1 : Int32).toInt = -1 := rfl
  have c1 : b1.toNatClampNeg = s := by
    have := clampN (x := b1) (by omega)
    omega
  have hv1 : vp_in b1 6 := vin hs (by omega) (by omega)
  have g10 := GT_10 (M := M) (W := W) (fu := fu) (ld := ld) (T := nw + n - 1) (O := O) (I := I) (by omega) (by omega)
  have ebd := eT_bd (pr := pr) (T := nw + n - 1) hW (fun h hh => hpr h (by omega))
  have vbd : ∀ d, d ≤ 48 → ∀ l c, VR (GT M O I W fu ld (nw + n - 1)) (eT W pr (nw + n - 1)) Ls wish d l c → -5000000000 ≤ c ∧ c ≤ 5000000000 := by
    intro d hd l c h
    have := VR_bd g10 ebd d l c h
    omega
  intro K21 hK21
  have LL : ∀ (m : Nat) (v20 : Int32) (z22 : St), TM z22 → Same [] [34] z18 z22 → v20.toInt = (m : Int) - 1 → m ≤ n → (∀ i, m ≤ i → i ≤ n → ∀ k : Nat, (k : Int) ≤ M → (gF z22 34 (41 * i + k) = 0 ∧ ∀ c, ¬ VR (GT M O I W fu ld (nw + n - 1)) (eT W pr (nw + n - 1)) Ls wish (n - i) (k : Int) c) ∨ (¬ gF z22 34 (41 * i + k) = 0 ∧ VR (GT M O I W fu ld (nw + n - 1)) (eT W pr (nw + n - 1)) Ls wish (n - i) (k : Int) (gG z22 33 (41 * i + k)).toInt)) → K21 v20 z22 := by
    intro m
    induction m with
    | zero =>
      intro v20 z22 t22 s22 hv hm tab
      exact hK21 v20 z22 ⟨fun _ => hk z22 t22 s22 tab, fun cc => absurd (i_nlt (q := 0) rfl rfl cc) (by omega)⟩
    | succ m ih =>
      intro v20 z22 t22 s22 hv hm tab
      have hv' : v20.toInt = (m : Int) := by omega
      have r2 : gI z22 2 = gI z18 2 := s22.1 2 (by decide)
      have r26 : gF z22 26 = gF z18 26 := s22.2 26 (by decide)
      have r32 : gF z22 32 = gF z18 32 := s22.2 32 (by decide)
      have ih2 : (gI z18 2 + v20).toInt = ((nw + m : Nat) : Int) := by
        have := a_add hnw hv' (by omega) (by omega)
        omega
      have eh : gI z18 2 + v20 = nI (nw + m) := toI_inj (by rw [ih2, nI_toInt (by omega)])
      refine hK21 v20 z22 ⟨fun cc => absurd (i_lt (q := 0) rfl rfl cc) (by omega), fun _ => ⟨hv1, ?_⟩⟩
      rw [r2, r26, r32, eh]
      refine v_X9_loadOf _ _ _ _ _ t22 (by rw [c1]; exact f26) (by rw [nI_toInt (by omega)]; omega) ?_
      rw [LD_same s22 (by decide) (by decide) (by decide) (by decide) (by decide) (by decide) (by decide)]
      refine v_X9_priceOf _ _ _ _ t22 ?_
      rw [PR_same s22 (by decide) (by decide) (by decide) (by decide) (by decide)]
      refine ⟨hv1, ?_⟩
      intro x71 e71
      have ed' := ed (nw + m) (by omega)
      have ep' := ep (nw + m) (by omega)
      have hp' := hpr (nw + m) (by omega)
      have a := mulle hp'.1 (w := W) (by omega)
      have b := mulle hp'.2 (w := W) (by omega)
      have i71 : x71.toInt = pr (nw + m) * W := by rw [e71]; exact lmul (a_wide ep') (a_wide (by rw [c1]; exact eW)) (by omega) (by omega)
      have hT : nw + n - 1 - (n - (m + 1)) = nw + m := by omega
      have ed1 : n - m = (n - (m + 1)) + 1 := by omega
      refine fm_l b1 v20 x15 _ x71 z22 _ s m M O I Ls W fu (ld (nw + m)) (pr (nw + m) * W) (VR (GT M O I W fu ld (nw + n - 1)) (eT W pr (nw + n - 1)) Ls wish (n - (m + 1))) t22 hs h5 hv' (by omega) h15 (by rw [s22.2 27 (by decide)]; exact eM) (by rw [s22.2 30 (by decide)]; exact eO) (by rw [s22.2 29 (by decide)]; exact eI) (by rw [s22.2 31 (by decide)]; exact eL) (by rw [r32]; exact eW) (by rw [r26, s22.2 4 (by decide)]; exact ef) (by rw [c1]; exact ed') i71 hW (hld _ (by omega)) (by omega) (VR_uniq _) (vbd _ (by omega)) (fun k hk' => ?_) (fun z74 t74 s74 o74 res => ?_)
      · have := tab (m + 1) (Nat.le_refl _) hm k hk'
        rw [show 41 * (m + 1) + k = 41 * m + 41 + k by omega] at this
        exact this
      · intro x76 e76
        have i76 : x76.toInt = (m : Int) - 1 := by rw [e76]; exact a_add hv' em1 (by omega) (by omega)
        refine ih x76 z74 t74 (s22.tr s74 (by decide) (by decide)) i76 (by omega) (fun i him hin k hk' => ?_)
        by_cases e : i = m
        · rw [e, ed1]
          have hA : AV (gO M O I W fu (ld (nw + m))) (pr (nw + m) * W) Ls (VR (GT M O I W fu ld (nw + n - 1)) (eT W pr (nw + n - 1)) Ls wish (n - (m + 1))) (k : Int) = AV (GT M O I W fu ld (nw + n - 1) (n - (m + 1))) (eT W pr (nw + n - 1) (n - (m + 1))) Ls (VR (GT M O I W fu ld (nw + n - 1)) (eT W pr (nw + n - 1)) Ls wish (n - (m + 1))) (k : Int) := by
            show _ = AV (gO M O I W fu (ld (nw + n - 1 - (n - (m + 1))))) (pr (nw + n - 1 - (n - (m + 1))) * W) Ls _ (k : Int)
            rw [hT]
          rcases res k hk' with q | q
          · rw [hA] at q
            exact Or.inl ⟨q.1, fun c h => by
              obtain ⟨x, hx⟩ := h
              exact q.2 x c hx.1⟩
          · rw [hA] at q
            exact Or.inr q
        · rw [(o74 (41 * i + k) (by omega)).1, (o74 (41 * i + k) (by omega)).2]
          exact tab i (by omega) hin k hk'
  intro x99 e99
  have i99 : x99.toInt = (n : Int) - 1 := by rw [e99]; exact a_sub hn e01 (by omega) (by omega)
  exact LL n x99 z18 t18 Same.rf i99 (Nat.le_refl _) hlt
/-- the first move that the table's cost allows -/
theorem fm_f (b1 v26 v27 r34 x38 : Int32) (x37 : Int64) (z29 : St) (Q : Int32 → Prop) (s i l : Nat) (M O I Ls W fu ld e : Int) (V : Int → Int → Prop) (t29 : TM z29) (hs : b1.toInt = (s : Int)) (h5 : s ≤ 5) (hi : v27.toInt = (i : Int)) (hi47 : i ≤ 47) (hl : v26.toInt = (l : Int)) (hlM : (l : Int) ≤ M) (eM : (gF z29 27 s).toInt = M) (eO : (gF z29 30 s).toInt = O) (eI : (gF z29 29 s).toInt = I) (eL : (gF z29 31 s).toInt = Ls) (eW : (gF z29 32 s).toInt = W) (ef : (gF z29 4 (gF z29 26 s).toNatClampNeg).toInt = fu) (el : r34.toInt = ld) (e37 : x37.toInt = e) (e38 : x38.toInt = -O) (hW : 1 ≤ W ∧ W ≤ 1000) (hld : 0 ≤ ld ∧ ld ≤ 100000) (he : -10000000 ≤ e ∧ e ≤ 10000000) (bV : ∀ l c, V l c → -5000000000 ≤ c ∧ c ≤ 5000000000) (hlt : ∀ k : Nat, (k : Int) ≤ M → (gF z29 34 (41 * i + 41 + k) = 0 ∧ ∀ c, ¬ V (k : Int) c) ∨ (¬ gF z29 34 (41 * i + 41 + k) = 0 ∧ V (k : Int) (gG z29 33 (41 * i + 41 + k)).toInt)) (xs : Int) (hfm : FM (AV (gO M O I W fu ld) e Ls V (l : Int)) (gG z29 33 (41 * i + l)).toInt xs) (fV : ∀ l c c', V l c → V l c' → c = c') (hk : ∀ x : Int32, x.toInt = xs → Q x) : ∀ K41 : Int32 → Int32 → Prop, (∀ (v39 : Int32) (v40 : Int32), (((¬ v40 = 0) → (Q v39)) ∧ (v40 = 0 → (wp_X9_goes b1 v26 v39 ((gI z29 2) + v27) r34 z29 (fun r49 => (∀ K51 : Int32 → Prop, (∀ (s50 : Int32), (∀ K53 : Int32 → Prop, (∀ (s52 : Int32), (∀ K56 : Int32 → Int32 → Prop, (∀ (s54 : Int32) (s55 : Int32), (∀ x57 : Int32, x57 = s55 + s54 → K41 x57 s52) → K56 s54 s55) → (((s52 = 0) → K56 ((1 : Int32)) v39) ∧ (¬ (s52 = 0) → K56 ((0 : Int32)) v39))) → K53 s52) → (∀ K59 : Prop, (K53 ((0 : Int32)) → K59) → (((r49 = 0) → K59) ∧ (¬ (r49 = 0) → (vp_in s50 2009 ∧ ((((gF z29 34 s50.toNatClampNeg) = 0) → K59) ∧ (¬ ((gF z29 34 s50.toNatClampNeg) = 0) → (vp_in s50 2009 ∧ (vp_in ((((41 : Int32)) * v27) + v26) 2009 ∧ (((¬ (lg_cmp ((gG z29 33 s50.toNatClampNeg) + ((Int32.toInt64 v39) * x37)) (gG z29 33 ((((41 : Int32)) * v27) + v26).toNatClampNeg)) = 0) → K59) ∧ ((lg_cmp ((gG z29 33 s50.toNatClampNeg) + ((Int32.toInt64 v39) * x37)) (gG z29 33 ((((41 : Int32)) * v27) + v26).toNatClampNeg)) = 0 → K53 ((1 : Int32))))))))))))) → K51 s50) → (((r49 = 0) → K51 ((0 : Int32))) ∧ (¬ (r49 = 0) → (wp_X9_afterwards b1 (v26 + v39) z29 (fun r65 => K51 (((((41 : Int32)) * v27) + ((41 : Int32))) + r65)))))))))) → K41 v39 v40) → K41 x38 ((0 : Int32)) := by
  have f27 : 0 ≤ (gF z29 27 s).toInt ∧ (gF z29 27 s).toInt ≤ 40 := t29.2 27 _
  have f29 : 0 ≤ (gF z29 29 s).toInt ∧ (gF z29 29 s).toInt ≤ 10 := t29.2 29 _
  have f30 : 0 ≤ (gF z29 30 s).toInt ∧ (gF z29 30 s).toInt ≤ 10 := t29.2 30 _
  have f31 : 0 ≤ (gF z29 31 s).toInt ∧ (gF z29 31 s).toInt ≤ 3 := t29.2 31 _
  have e01 : (1 : Int32).toInt = 1 := rfl
  have e00 : (0 : Int32).toInt = 0 := rfl
  have c1 : b1.toNatClampNeg = s := by
    have := clampN (x := b1) (by omega)
    omega
  have ixl : ((41 : Int32) * v27 + v26).toInt = 41 * (i : Int) + (l : Int) := a_add (a_mul (show (41 : Int32).toInt = 41 from rfl) hi (by omega) (by omega)) hl (by omega) (by omega)
  have cxl : ((41 : Int32) * v27 + v26).toNatClampNeg = 41 * i + l := by
    have := clampN (x := (41 : Int32) * v27 + v26) (by omega)
    omega
  have hvl : vp_in ((41 : Int32) * v27 + v26) 2009 := vin ixl (by omega) (by omega)
  have i41 : ((41 : Int32) * v27 + (41 : Int32)).toInt = 41 * (i : Int) + 41 := a_add (a_mul (show (41 : Int32).toInt = 41 from rfl) hi (by omega) (by omega)) (show (41 : Int32).toInt = 41 from rfl) (by omega) (by omega)
  have hxs := hfm.1.1.1
  intro K41 hK41
  rw [cxl] at hK41
  have k1 : ∀ x : Int32, x.toInt = xs → K41 x 1 := fun x hx => hK41 x 1 ⟨fun _ => hk x hx, fun q => absurd q (by decide)⟩
  have LL : ∀ (n : Nat) (v39 : Int32), -O ≤ v39.toInt → v39.toInt ≤ xs → (xs - v39.toInt).toNat < n → K41 v39 0 := by
    intro n
    induction n with
    | zero => intro v39 _ _ q; omega
    | succ n ih =>
      intro v39 k0 k1' gm
      have gi := gV_iff (r4 := gF z29 4) (r26 := gF z29 26) (r27 := gF z29 27) (r32 := gF z29 32) (s := b1) (l := v26) (x := v39) (load := r34) (M := M) (W := W) (fu := fu) (ld := ld) (by rw [c1]; exact eM) (by rw [c1]; exact eW) (by rw [c1]; exact ef) el (by omega) (by omega) hW hld
      rw [hl] at gi
      refine hK41 v39 0 ⟨fun q => absurd rfl q, fun _ => ?_⟩
      refine v_X9_goes _ _ _ _ _ z29 _ t29 (by omega) ?_
      -- the two ends of a look
      have no : ¬ AV (gO M O I W fu ld) e Ls V (l : Int) v39.toInt (gG z29 33 (41 * i + l)).toInt → ∀ x57 : Int32, x57 = v39 + 1 → K41 x57 0 := by
        intro na x57 e57
        have i57 : x57.toInt = v39.toInt + 1 := by rw [e57]; exact a_add rfl e01 (by omega) (by omega)
        have hne : v39.toInt ≠ xs := fun q => na (by rw [q]; exact hfm.1)
        exact ih x57 (by omega) (by omega) (by omega)
      have yes : AV (gO M O I W fu ld) e Ls V (l : Int) v39.toInt (gG z29 33 (41 * i + l)).toInt → ∀ x57 : Int32, x57 = v39 + 0 → K41 x57 1 := by
        intro ya x57 e57
        have h2 := (hfm.2 _ _ ya).2
        have hx : v39.toInt = xs := by
          by_cases q : v39.toInt < xs
          · have := h2 q
            omega
          · omega
        exact k1 x57 (by rw [e57, Int32.add_zero]; exact hx)
      have fin0 : ∀ K53 : Int32 → Prop, (∀ (s52 : Int32), (∀ K56 : Int32 → Int32 → Prop, (∀ (s54 : Int32) (s55 : Int32), (∀ x57 : Int32, x57 = s55 + s54 → K41 x57 s52) → K56 s54 s55) → (((s52 = 0) → K56 ((1 : Int32)) v39) ∧ (¬ (s52 = 0) → K56 ((0 : Int32)) v39))) → K53 s52) → ¬ AV (gO M O I W fu ld) e Ls V (l : Int) v39.toInt (gG z29 33 (41 * i + l)).toInt → K53 0 := by
        intro K53 hK53 na
        refine hK53 0 ?_
        intro K56 hK56
        exact ⟨fun _ => hK56 1 v39 (no na), fun q => absurd rfl q⟩
      have fin1 : ∀ K53 : Int32 → Prop, (∀ (s52 : Int32), (∀ K56 : Int32 → Int32 → Prop, (∀ (s54 : Int32) (s55 : Int32), (∀ x57 : Int32, x57 = s55 + s54 → K41 x57 s52) → K56 s54 s55) → (((s52 = 0) → K56 ((1 : Int32)) v39) ∧ (¬ (s52 = 0) → K56 ((0 : Int32)) v39))) → K53 s52) → AV (gO M O I W fu ld) e Ls V (l : Int) v39.toInt (gG z29 33 (41 * i + l)).toInt → K53 1 := by
        intro K53 hK53 ya
        refine hK53 1 ?_
        intro K56 hK56
        exact ⟨fun q => absurd q (by decide), fun _ => hK56 0 v39 (yes ya)⟩
      intro K51 hK51
      refine ⟨fun cg => ?_, fun cg => ?_⟩
      · refine hK51 0 ?_
        intro K53 hK53 K59 hK59
        have h59 : K59 := hK59 (fin0 K53 hK53 (fun h => (gi.mpr h.1.2) cg))
        exact ⟨fun _ => h59, fun q => absurd cg q⟩
      · have gg := gi.mp cg
        have ia : (v26 + v39).toInt = (l : Int) + v39.toInt := a_add hl rfl (by omega) (by omega)
        have iaf : (aV (gF z29 31) b1 (v26 + v39)).toInt = af Ls ((l : Int) + v39.toInt) := by
          rw [← ia]
          exact aV_af (by rw [c1]; exact eL) (by omega) (by omega)
        have fa := af_in (Ls := Ls) (l := (l : Int) + v39.toInt) (M := M) (by omega) gg.1
        refine v_X9_afterwards _ _ z29 _ (by omega) (hK51 _ ?_)
        have i91 : ((41 : Int32) * v27 + (41 : Int32) + aV (gF z29 31) b1 (v26 + v39)).toInt = 41 * (i : Int) + 41 + af Ls ((l : Int) + v39.toInt) := a_add i41 iaf (by omega) (by omega)
        have c91 := clampN (x := (41 : Int32) * v27 + (41 : Int32) + aV (gF z29 31) b1 (v26 + v39)) (by omega)
        obtain ⟨k, hkk⟩ : ∃ k : Nat, (k : Int) = af Ls ((l : Int) + v39.toInt) := ⟨(af Ls ((l : Int) + v39.toInt)).toNat, by omega⟩
        have ck : ((41 : Int32) * v27 + (41 : Int32) + aV (gF z29 31) b1 (v26 + v39)).toNatClampNeg = 41 * i + 41 + k := by omega
        have hv91 : vp_in ((41 : Int32) * v27 + (41 : Int32) + aV (gF z29 31) b1 (v26 + v39)) 2009 := vin i91 (by omega) (by omega)
        have lt := hlt k (by omega)
        rw [hkk] at lt
        rw [ck]
        intro K53 hK53 K59 hK59
        refine ⟨fun q => absurd q cg, fun _ => ⟨hv91, fun cz => hK59 (fin0 K53 hK53 (fun h => ?_)), fun cz => ⟨hv91, hvl, ?_⟩⟩⟩
        · obtain ⟨_, v, hv, _⟩ := h
          rcases lt with q | q
          · exact q.2 v hv
          · exact q.1 cz
        · have vv : V (af Ls ((l : Int) + v39.toInt)) (gG z29 33 (41 * i + 41 + k)).toInt := by
            rcases lt with q | q
            · exact absurd q.1 cz
            · exact q.2
          have bv := bV _ _ vv
          have kx := xe_bd (x := v39.toInt) (by omega) he
          have im : (Int32.toInt64 v39 * x37).toInt = v39.toInt * e := lmul (a_wide rfl) e37 (by omega) (by omega)
          have ic : (gG z29 33 (41 * i + 41 + k) + Int32.toInt64 v39 * x37).toInt = (gG z29 33 (41 * i + 41 + k)).toInt + v39.toInt * e := a_addL rfl im (by omega) (by omega)
          refine ⟨fun ce => hK59 (fin0 K53 hK53 (fun h => ?_)), fun ce => fin1 K53 hK53 ?_⟩
          · obtain ⟨_, v, hv, ec⟩ := h
            refine ce (lgc0.mpr ?_)
            rw [ic, ec, fV _ _ _ hv vv]
          · have ce' := lgc0.mp ce
            rw [ic] at ce'
            exact ⟨⟨⟨k0, by omega⟩, gg⟩, _, vv, ce'.symm⟩
  exact LL _ x38 (by omega) (by omega) (Nat.lt_succ_self _)
/-- the way that the table says -/
theorem fm_w (b1 b2 x25 : Int32) (z22 : St) (Q : St → Prop) (s nw n : Nat) (M O I Ls W fu wish : Int) (ld pr : Nat → Int) (lev : Int) (t22 : TM z22) (hs : b1.toInt = (s : Int)) (h5 : s ≤ 5) (hnw : (gI z22 2).toInt = (nw : Int)) (hn : b2.toInt = (n : Int)) (h1 : 1 ≤ n) (h48 : n ≤ 48) (h168 : nw + n ≤ 168) (eM : (gF z22 27 s).toInt = M) (eO : (gF z22 30 s).toInt = O) (eI : (gF z22 29 s).toInt = I) (eL : (gF z22 31 s).toInt = Ls) (eW : (gF z22 32 s).toInt = W) (ef : (gF z22 4 (gF z22 26 s).toNatClampNeg).toInt = fu) (ed : ∀ h : Nat, h < 168 → (LD z22 (gF z22 26 s) (nI h) (-1)).toInt = ld h) (ep : ∀ h : Nat, h < 168 → (PR z22 (nI h) (gI z22 2)).toInt = pr h) (hW : 1 ≤ W ∧ W ≤ 1000) (hfu : 0 ≤ fu ∧ fu ≤ 20000) (hld : ∀ h : Nat, h < 168 → 0 ≤ ld h ∧ ld h ≤ 100000) (hpr : ∀ h : Nat, h < 168 → -1000 ≤ pr h ∧ pr h ≤ 10000) (e25 : x25.toInt = lev) (hlev : 0 ≤ lev ∧ lev ≤ M) (hV : ∃ c, VR (GT M O I W fu ld (nw + n - 1)) (eT W pr (nw + n - 1)) Ls wish n lev c) (tab : (∀ i, 0 ≤ i → i ≤ n → ∀ k : Nat, (k : Int) ≤ M → (gF z22 34 (41 * i + k) = 0 ∧ ∀ c, ¬ VR (GT M O I W fu ld (nw + n - 1)) (eT W pr (nw + n - 1)) Ls wish (n - i) (k : Int) c) ∨ (¬ gF z22 34 (41 * i + k) = 0 ∧ VR (GT M O I W fu ld (nw + n - 1)) (eT W pr (nw + n - 1)) Ls wish (n - i) (k : Int) (gG z22 33 (41 * i + k)).toInt))) (hk : ∀ z2 : St, TM z2 → Same [] [35, 36] z22 z2 → FWY (GT M O I W fu ld (nw + n - 1)) (eT W pr (nw + n - 1)) Ls wish lev n (gF z2 35) (gF z2 36) → Q z2) : ∀ K28 : Int32 → Int32 → St → Prop, (∀ (v26 : Int32) (v27 : Int32) (z29 : St), (((b2 ≤ v27) → (Q z29)) ∧ (¬ (b2 ≤ v27) → (vp_in b1 6 ∧ (wp_X9_loadOf (gF z29 26 b1.toNatClampNeg) ((gI z29 2) + v27) ((-1 : Int32)) z29 (fun r34 => (wp_X9_priceOf ((gI z29 2) + v27) (gI z29 2) z29 (fun r36 => (vp_in b1 6 ∧ (∀ x37 : Int64, x37 = (Int32.toInt64 r36) * (Int32.toInt64 (gF z29 32 b1.toNatClampNeg)) → (vp_in b1 6 ∧ (∀ x38 : Int32, x38 = -(gF z29 30 b1.toNatClampNeg) → (∀ K41 : Int32 → Int32 → Prop, (∀ (v39 : Int32) (v40 : Int32), (((¬ v40 = 0) → (vp_in v27 48 ∧ (∀ z43 : St, z43 = wR z29 35 (upd (gF z29 35) v27.toNatClampNeg v39) → (wp_X9_afterwards b1 (v26 + v39) z43 (fun r45 => (vp_in v27 48 ∧ (∀ z46 : St, z46 = wR z43 36 (upd (gF z43 36) v27.toNatClampNeg r45) → (∀ x47 : Int32, x47 = v27 + (1) → K28 r45 x47 z46)))))))) ∧ (v40 = 0 → (wp_X9_goes b1 v26 v39 ((gI z29 2) + v27) r34 z29 (fun r49 => (∀ K51 : Int32 → Prop, (∀ (s50 : Int32), (∀ K53 : Int32 → Prop, (∀ (s52 : Int32), (∀ K56 : Int32 → Int32 → Prop, (∀ (s54 : Int32) (s55 : Int32), (∀ x57 : Int32, x57 = s55 + s54 → K41 x57 s52) → K56 s54 s55) → (((s52 = 0) → K56 ((1 : Int32)) v39) ∧ (¬ (s52 = 0) → K56 ((0 : Int32)) v39))) → K53 s52) → (∀ K59 : Prop, (K53 ((0 : Int32)) → K59) → (((r49 = 0) → K59) ∧ (¬ (r49 = 0) → (vp_in s50 2009 ∧ ((((gF z29 34 s50.toNatClampNeg) = 0) → K59) ∧ (¬ ((gF z29 34 s50.toNatClampNeg) = 0) → (vp_in s50 2009 ∧ (vp_in ((((41 : Int32)) * v27) + v26) 2009 ∧ (((¬ (lg_cmp ((gG z29 33 s50.toNatClampNeg) + ((Int32.toInt64 v39) * x37)) (gG z29 33 ((((41 : Int32)) * v27) + v26).toNatClampNeg)) = 0) → K59) ∧ ((lg_cmp ((gG z29 33 s50.toNatClampNeg) + ((Int32.toInt64 v39) * x37)) (gG z29 33 ((((41 : Int32)) * v27) + v26).toNatClampNeg)) = 0 → K53 ((1 : Int32))))))))))))) → K51 s50) → (((r49 = 0) → K51 ((0 : Int32))) ∧ (¬ (r49 = 0) → (wp_X9_afterwards b1 (v26 + v39) z29 (fun r65 => K51 (((((41 : Int32)) * v27) + ((41 : Int32))) + r65)))))))))) → K41 v39 v40) → K41 x38 ((0 : Int32)))))))))))))) → K28 v26 v27 z29) → K28 x25 ((0 : Int32)) z22 := by
  have f27 : 0 ≤ (gF z22 27 s).toInt ∧ (gF z22 27 s).toInt ≤ 40 := t22.2 27 _
  have f26 : 0 ≤ (gF z22 26 s).toInt ∧ (gF z22 26 s).toInt ≤ 3 := t22.2 26 _
  have f29 : 0 ≤ (gF z22 29 s).toInt ∧ (gF z22 29 s).toInt ≤ 10 := t22.2 29 _
  have f30 : 0 ≤ (gF z22 30 s).toInt ∧ (gF z22 30 s).toInt ≤ 10 := t22.2 30 _
  have f31 : 0 ≤ (gF z22 31 s).toInt ∧ (gF z22 31 s).toInt ≤ 3 := t22.2 31 _
  have e01 : (1 : Int32).toInt = 1 := rfl
  have e00 : (0 : Int32).toInt = 0 := rfl
  have em1 : (-1 : Int32).toInt = -1 := rfl
  have c1 : b1.toNatClampNeg = s := by
    have := clampN (x := b1) (by omega)
    omega
  have hv1 : vp_in b1 6 := vin hs (by omega) (by omega)
  have g10 := GT_10 (M := M) (W := W) (fu := fu) (ld := ld) (T := nw + n - 1) (O := O) (I := I) (by omega) (by omega)
  have ebd := eT_bd (pr := pr) (T := nw + n - 1) hW (fun h hh => hpr h (by omega))
  have vbd : ∀ d, d ≤ 48 → ∀ l c, VR (GT M O I W fu ld (nw + n - 1)) (eT W pr (nw + n - 1)) Ls wish d l c → -5000000000 ≤ c ∧ c ≤ 5000000000 := by
    intro d hd l c h
    have := VR_bd g10 ebd d l c h
    omega
  intro K28 hK28
  rw [c1] at hK28
  have LL : ∀ (q i : Nat) (v26 v27 : Int32) (z29 : St), TM z29 → Same [] [35, 36] z22 z29 → gG z29 33 = gG z22 33 → v27.toInt = (i : Int) → i ≤ n → (v26.toInt = if i = 0 then lev else (gF z29 36 (i - 1)).toInt) → (0 ≤ v26.toInt ∧ v26.toInt ≤ M) → (∃ c, VR (GT M O I W fu ld (nw + n - 1)) (eT W pr (nw + n - 1)) Ls wish (n - i) v26.toInt c) → (∀ j, j < i → CX (GT M O I W fu ld (nw + n - 1)) (eT W pr (nw + n - 1)) Ls wish (n - 1 - j) (if j = 0 then lev else (gF z29 36 (j - 1)).toInt) (gF z29 35 j).toInt ∧ (gF z29 36 j).toInt = af Ls ((if j = 0 then lev else (gF z29 36 (j - 1)).toInt) + (gF z29 35 j).toInt)) → n - i < q → K28 v26 v27 z29 := by
    intro q
    induction q with
    | zero => intro i v26 v27 z29 _ _ _ _ _ _ _ _ _ h; omega
    | succ q ih =>
      intro i v26 v27 z29 t29 s29 l29 hv hi hl hr hV29 hp gm
      have cv : v27.toNatClampNeg = i := by
        have := clampN (x := v27) (by omega)
        omega
      have c2 := clampN hr.1
      refine hK28 v26 v27 z29 ⟨fun c => ?_, fun c => ⟨hv1, ?_⟩⟩
      · have c' := i_le hn hv c
        have ei : i = n := by omega
        rw [ei] at hp
        exact hk z29 t29 s29 hp
      · have c' := i_nle hn hv c
        have hin : i < n := by omega
        have r2 : gI z29 2 = gI z22 2 := s29.1 2 (by decide)
        have r26 : gF z29 26 = gF z22 26 := s29.2 26 (by decide)
        have r30 : gF z29 30 = gF z22 30 := s29.2 30 (by decide)
        have r31 : gF z29 31 = gF z22 31 := s29.2 31 (by decide)
        have r32 : gF z29 32 = gF z22 32 := s29.2 32 (by decide)
        have r34 : gF z29 34 = gF z22 34 := s29.2 34 (by decide)
        have ihh : (gI z22 2 + v27).toInt = ((nw + i : Nat) : Int) := by
          have := a_add hnw hv (by omega) (by omega)
          omega
        have eh : gI z22 2 + v27 = nI (nw + i) := toI_inj (by rw [ihh, nI_toInt (by omega)])
        rw [r2, r26, r30, r32, eh]
        refine v_X9_loadOf _ _ _ _ _ t29 f26 (by rw [nI_toInt (by omega)]; omega) ?_
        rw [LD_same s29 (by decide) (by decide) (by decide) (by decide) (by decide) (by decide) (by decide)]
        refine v_X9_priceOf _ _ _ _ t29 ?_
        rw [PR_same s29 (by decide) (by decide) (by decide) (by decide) (by decide)]
        refine ⟨hv1, ?_⟩
        intro x37 e37
        refine ⟨hv1, ?_⟩
        intro x38 e38
        have ed' := ed (nw + i) (by omega)
        have ep' := ep (nw + i) (by omega)
        have hp' := hpr (nw + i) (by omega)
        have a := mulle hp'.1 (w := W) (by omega)
        have b := mulle hp'.2 (w := W) (by omega)
        have i37 : x37.toInt = pr (nw + i) * W := by rw [e37]; exact lmul (a_wide ep') (a_wide eW) (by omega) (by omega)
        have i38 : x38.toInt = -O := by rw [e38]; exact a_neg eO (by omega) (by omega)
        have hT : nw + n - 1 - (n - 1 - i) = nw + i := by omega
        have ed1 : n - i = (n - 1 - i) + 1 := by omega
        obtain ⟨cc, hcc⟩ := hV29
        have tb := tab i (Nat.zero_le _) (by omega) v26.toNatClampNeg (by omega)
        rw [c2] at tb
        have tv : VR (GT M O I W fu ld (nw + n - 1)) (eT W pr (nw + n - 1)) Ls wish (n - i) v26.toInt (gG z22 33 (41 * i + v26.toNatClampNeg)).toInt := by
          rcases tb with q | q
          · exact absurd hcc (q.2 cc)
          · exact q.2
        rw [ed1] at tv
        obtain ⟨xs, fm⟩ := tv
        have hA : AV (GT M O I W fu ld (nw + n - 1) (n - 1 - i)) (eT W pr (nw + n - 1) (n - 1 - i)) Ls (VR (GT M O I W fu ld (nw + n - 1)) (eT W pr (nw + n - 1)) Ls wish (n - 1 - i)) v26.toInt = AV (gO M O I W fu (ld (nw + i))) (pr (nw + i) * W) Ls (VR (GT M O I W fu ld (nw + n - 1)) (eT W pr (nw + n - 1)) Ls wish (n - 1 - i)) ((v26.toNatClampNeg : Nat) : Int) := by
          show AV (gO M O I W fu (ld (nw + n - 1 - (n - 1 - i)))) (pr (nw + n - 1 - (n - 1 - i)) * W) Ls _ v26.toInt = _
          rw [hT, c2]
        have hv48 : vp_in v27 48 := vin hv (by omega) (by omega)
        refine fm_f b1 v26 v27 _ x38 x37 z29 _ s i v26.toNatClampNeg M O I Ls W fu (ld (nw + i)) (pr (nw + i) * W) (VR (GT M O I W fu ld (nw + n - 1)) (eT W pr (nw + n - 1)) Ls wish (n - 1 - i)) t29 hs h5 hv (by omega) c2.symm (by omega) (by rw [s29.2 27 (by decide)]; exact eM) (by rw [r30]; exact eO) (by rw [s29.2 29 (by decide)]; exact eI) (by rw [r31]; exact eL) (by rw [r32]; exact eW) (by rw [r26, s29.2 4 (by decide)]; exact ef) ed' i37 i38 hW (hld _ (by omega)) (by omega) (vbd _ (by omega)) (fun k hk' => ?_) xs (by rw [← hA, l29]; exact fm) (VR_uniq _) (fun x39 hx39 => ⟨hv48, ?_⟩)
        · have := tab (i + 1) (Nat.zero_le _) (by omega) k hk'
          rw [show 41 * (i + 1) + k = 41 * i + 41 + k by omega, show n - (i + 1) = n - 1 - i by omega] at this
          rw [r34, l29]
          exact this
        · rw [cv]
          intro z43 e43
          have t43 : TM z43 := by rw [e43]; exact Ty_wR t29 trivial
          obtain ⟨⟨gx, v, hv', _⟩, _⟩ := id fm
          have gr := gx.2.1
          have ia : (v26 + x39).toInt = v26.toInt + xs := a_add rfl hx39 (by omega) (by omega)
          have iaf : (aV (gF z22 31) b1 (v26 + x39)).toInt = af Ls (v26.toInt + xs) := by
            rw [← ia]
            exact aV_af (by rw [c1]; exact eL) (by omega) (by omega)
          have fa := af_in (Ls := Ls) (l := v26.toInt + xs) (M := M) (by omega) gr
          have y31 : gF z43 31 = gF z22 31 := by rw [e43]; exact r31
          refine v_X9_afterwards _ _ z43 _ (by omega) ⟨hv48, ?_⟩
          rw [y31]
          intro z46 e46 x47 e47
          have i47 : x47.toInt = (i : Int) + 1 := by rw [e47]; exact a_add hv e01 (by omega) (by omega)
          have q36 : ∀ k, gF z46 36 k = if k = i then aV (gF z22 31) b1 (v26 + x39) else gF z29 36 k := by
            intro k
            rw [e46, gF_upd, e43]; rfl
          have q35 : ∀ k, gF z46 35 k = if k = i then x39 else gF z29 35 k := by
            intro k
            rw [e46]
            show gF z43 35 k = _
            rw [e43, gF_upd]
          refine ih (i + 1) _ x47 z46 (by rw [e46]; exact Ty_wR t43 trivial) ((s29.r (by decide) e43).r (by decide) e46) (by rw [e46, e43]; exact l29) (by omega) (by omega) ?_ (by omega) ⟨v, ?_⟩ (fun j hj => ?_) (by omega)
          · rw [if_neg (Nat.succ_ne_zero i), Nat.add_sub_cancel, q36, if_pos rfl]
          · rw [iaf, show n - (i + 1) = n - 1 - i by omega]; exact hv'
          · by_cases ej : j = i
            · rw [ej, q35, if_pos rfl, q36 i, if_pos rfl]
              have lp : (if i = 0 then lev else (gF z46 36 (i - 1)).toInt) = v26.toInt := by
                rw [hl]
                by_cases i0 : i = 0
                · rw [if_pos i0, if_pos i0]
                · rw [if_neg i0, if_neg i0, q36, if_neg (by omega)]
              rw [lp, hx39]
              exact ⟨⟨_, fm⟩, iaf⟩
            · have h0 := hp j (by omega)
              rw [q35, if_neg ej, q36 j, if_neg ej]
              by_cases j0 : j = 0
              · rw [if_pos j0] at h0 ⊢; exact h0
              · rw [if_neg j0] at h0 ⊢
                rw [q36, if_neg (by omega)]; exact h0
  refine LL (n + 1) 0 x25 0 z22 t22 Same.rf rfl rfl (Nat.zero_le _) (by rw [if_pos rfl]; exact e25) (by rw [e25]; exact hlev) (by rw [e25, Nat.sub_zero]; exact hV) (fun j hj => absurd hj (Nat.not_lt_zero _)) (by omega)
