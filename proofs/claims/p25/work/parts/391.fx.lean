-- FILLING, the class
abbrev FARL : Int64 := 1000000000000000000
theorem far_i : (1000000000000000000 : Int64).toInt = 1000000000000000000 := rfl
/-- one level of one hour: all moves are looked at -/
theorem ch_in (b1 b3 v7 x6 x11 x12 : Int32) (z14 : St) (Q : St → Prop) (s l i0 : Nat) (Ls e M : Int) (G : Int → Int → Prop) (V : Int → Int → Prop) (t14 : TX z14) (hs : b1.toInt = (s : Int)) (h5 : s ≤ 5) (hl : v7.toInt = (l : Int)) (hl40 : (l : Int) ≤ M) (hM : M ≤ 40) (hro : b3.toInt = 41 * (i0 : Int)) (hi0 : i0 ≤ 47) (eL : (gF z14 45 s).toInt = Ls) (e6 : x6.toInt = e) (he : -10000000 ≤ e ∧ e ≤ 10000000) (hg : ∀ x : Int, G (l : Int) x ↔ x11.toInt ≤ x ∧ x ≤ x12.toInt) (hx : ∀ x : Int, x11.toInt ≤ x → x ≤ x12.toInt → (-10 ≤ x ∧ x ≤ 10) ∧ 0 ≤ (l : Int) + x ∧ (l : Int) + x ≤ M) (h11 : -10 ≤ x11.toInt ∧ x11.toInt ≤ x12.toInt + 1) (h12 : x12.toInt ≤ 10) (fV : ∀ l c c', V l c → V l c' → c = c') (bV : ∀ l c, V l c → -5000000000 ≤ c ∧ c ≤ 5000000000) (hlt : ∀ k : Nat, (k : Int) ≤ M → (gG z14 48 k = 1000000000000000000 ∧ ∀ c, ¬ V (k : Int) c) ∨ V (k : Int) (gG z14 48 k).toInt) (h47 : gG z14 47 l = 1000000000000000000) (hk : ∀ z2 : St, TX z2 → Same [] [49] z14 z2 → gG z2 48 = gG z14 48 → (∀ k, k ≠ 41 * i0 + l → gF z2 49 k = gF z14 49 k) → (∀ k, k ≠ l → gG z2 47 k = gG z14 47 k) → ((gG z2 47 l = 1000000000000000000 ∧ ∀ x c, ¬ AV G e Ls V (l : Int) x c) ∨ FM (AV G e Ls V (l : Int)) (gG z2 47 l).toInt (gF z2 49 (41 * i0 + l)).toInt) → Q z2) : ∀ K16 : Int32 → St → Prop, (∀ (v15 : Int32) (z17 : St), (((x12 < v15) → Q z17) ∧ (¬ (x12 < v15) → (vp_in b1 6 ∧ (vp_in ((if (0 : Int32) < (v7 + v15) - (gF z17 45 s) then (v7 + v15) - (gF z17 45 s) else (0 : Int32))) 41 ∧ (∀ x20 : Int64, x20 = gG z17 48 ((if (0 : Int32) < (v7 + v15) - (gF z17 45 s) then (v7 + v15) - (gF z17 45 s) else (0 : Int32))).toNatClampNeg → (∀ K21 : St → Prop, (∀ (z22 : St), (∀ x23 : Int32, x23 = v15 + (1) → K16 x23 z22) → K21 z22) → ((((lg_cmp x20 ((1000000000000000000 : Int64))) = 0) → K21 z17) ∧ (¬ ((lg_cmp x20 ((1000000000000000000 : Int64))) = 0) → (vp_in v7 41 ∧ (((0 ≤ (lg_cmp (x20 + ((Int32.toInt64 v15) * (Int32.toInt64 x6))) (gG z17 47 v7.toNatClampNeg))) → K21 z17) ∧ (¬ (0 ≤ (lg_cmp (x20 + ((Int32.toInt64 v15) * (Int32.toInt64 x6))) (gG z17 47 v7.toNatClampNeg))) → (vp_in v7 41 ∧ (∀ z26 : St, z26 = wL z17 47 (vp_updL (gG z17 47) v7.toNatClampNeg (x20 + ((Int32.toInt64 v15) * (Int32.toInt64 x6)))) → (vp_in (b3 + v7) 1968 ∧ (∀ z27 : St, z27 = wR z26 49 (upd (gF z26 49) (41 * i0 + v7.toNatClampNeg) v15) → K21 z27))))))))))))))) → K16 v15 z17) → K16 x11 z14 := by
  have f45 : 0 ≤ (gF z14 45 s).toInt ∧ (gF z14 45 s).toInt ≤ 3 := t14.2 45 _
  have e01 : (1 : Int32).toInt = 1 := rfl
  have e00 : (0 : Int32).toInt = 0 := rfl
  have c1 : b1.toNatClampNeg = s := by
    have := clampN (x := b1) (by omega)
    omega
  have c7 : v7.toNatClampNeg = l := by
    have := clampN (x := v7) (by omega)
    omega
  have hv1 : vp_in b1 6 := vin hs (by omega) (by omega)
  have hv7 : vp_in v7 41 := vin hl (by omega) (by omega)
  have i37 : (b3 + v7).toInt = 41 * (i0 : Int) + (l : Int) := a_add hro hl (by omega) (by omega)
  have c37 : (b3 + v7).toNatClampNeg = 41 * i0 + l := by
    have := clampN (x := b3 + v7) (by omega)
    omega
  have hv37 : vp_in (b3 + v7) 1968 := vin i37 (by omega) (by omega)
  have fA : ∀ x c c', AV G e Ls V (l : Int) x c → AV G e Ls V (l : Int) x c' → c = c' := fun x c c' h h' => AV_uniq fV h h'
  intro K16 hK16
  have L : ∀ (n : Nat) (v15 : Int32) (z17 : St), TX z17 → Same [] [49] z14 z17 → gG z17 48 = gG z14 48 → (∀ k, k ≠ 41 * i0 + l → gF z17 49 k = gF z14 49 k) → (∀ k, k ≠ l → gG z17 47 k = gG z14 47 k) → x11.toInt ≤ v15.toInt → v15.toInt ≤ x12.toInt + 1 → ((gG z17 47 l = 1000000000000000000 ∧ NP (AV G e Ls V (l : Int)) v15.toInt) ∨ FP (AV G e Ls V (l : Int)) v15.toInt (gG z17 47 l).toInt (gF z17 49 (41 * i0 + l)).toInt) → (x12.toInt + 1 - v15.toInt).toNat < n → K16 v15 z17 := by
    intro n
    induction n with
    | zero => intro v15 z17 _ _ _ _ _ _ _ _ q; omega
    | succ n ih =>
      intro v15 z17 t17 s17 g48 o49 o47 k0 k1 st gm
      have hb : ∀ x c, AV G e Ls V (l : Int) x c → x ≤ x12.toInt := fun x c h => ((hg x).mp h.1).2
      refine hK16 v15 z17 ⟨fun c => ?_, fun c => ?_⟩
      · have c' := i_lt rfl rfl c
        refine hk z17 t17 s17 g48 o49 o47 ?_
        rcases st with ⟨s1, s2⟩ | s1
        · exact Or.inl ⟨s1, NP_end s2 (fun x c h => by have := hb x c h; omega)⟩
        · exact Or.inr (FP_end s1 (fun x c h => by have := hb x c h; omega))
      · have c' := i_nlt rfl rfl c
        obtain ⟨x10, lx0, lxM⟩ := hx v15.toInt k0 c'
        have gx : G (l : Int) v15.toInt := (hg _).mpr ⟨k0, c'⟩
        have r45 : gF z17 45 = gF z14 45 := s17.2 45 (by decide)
        have ia : (v7 + v15).toInt = (l : Int) + v15.toInt := a_add hl rfl (by omega) (by omega)
        have ib : (v7 + v15 - gF z14 45 s).toInt = (l : Int) + v15.toInt - Ls := a_sub ia eL (by omega) (by omega)
        have ei : (if (0 : Int32) < v7 + v15 - gF z14 45 s then v7 + v15 - gF z14 45 s else (0 : Int32)).toInt = af Ls ((l : Int) + v15.toInt) := by
          unfold af
          by_cases q : (0 : Int32) < v7 + v15 - gF z14 45 s
          · have q' := i_lt rfl ib q
            rw [if_pos q, if_pos (by omega), ib]
          · have q' := i_nlt rfl ib q
            rw [if_neg q]
            by_cases w : Ls ≤ (l : Int) + v15.toInt
            · rw [if_pos w]; omega
            · rw [if_neg w]; rfl
        have fa := af_in (Ls := Ls) (l := (l : Int) + v15.toInt) (M := M) (by omega) ⟨lx0, lxM⟩
        rw [r45]
        generalize hxx : (if (0 : Int32) < v7 + v15 - gF z14 45 s then v7 + v15 - gF z14 45 s else (0 : Int32)) = xx at ei ⊢
        have cx := clampN (x := xx) (by omega)
        refine ⟨hv1, vin ei (by omega) (by omega), ?_⟩
        intro x20 e20
        rw [g48] at e20
        have lt := hlt xx.toNatClampNeg (by omega)
        rw [show ((xx.toNatClampNeg : Nat) : Int) = af Ls ((l : Int) + v15.toInt) by omega, ← e20] at lt
        intro K21 hK21
        have next : ∀ z22 : St, TX z22 → Same [] [49] z14 z22 → gG z22 48 = gG z14 48 → (∀ k, k ≠ 41 * i0 + l → gF z22 49 k = gF z14 49 k) → (∀ k, k ≠ l → gG z22 47 k = gG z14 47 k) → ((gG z22 47 l = 1000000000000000000 ∧ NP (AV G e Ls V (l : Int)) (v15.toInt + 1)) ∨ FP (AV G e Ls V (l : Int)) (v15.toInt + 1) (gG z22 47 l).toInt (gF z22 49 (41 * i0 + l)).toInt) → K21 z22 := by
          intro z22 t22 s22 p48 p49 p47 st22
          refine hK21 z22 (fun x23 e23 => ?_)
          have i23 : x23.toInt = v15.toInt + 1 := by rw [e23]; exact a_add rfl e01 (by omega) (by omega)
          exact ih x23 z22 t22 s22 p48 p49 p47 (by omega) (by omega) (by rw [i23]; exact st22) (by omega)
        refine ⟨fun cf => ?_, fun cf => ⟨hv7, ?_⟩⟩
        · -- no way behind it
          have ef : x20.toInt = 1000000000000000000 := lgc0.mp cf
          have nv : ∀ c, ¬ V (af Ls ((l : Int) + v15.toInt)) c := by
            rcases lt with q | q
            · exact q.2
            · have := bV _ _ q
              omega
          have na : ∀ c, ¬ AV G e Ls V (l : Int) v15.toInt c := fun c h => by
            obtain ⟨_, v, hv, _⟩ := h
            exact nv v hv
          refine next z17 t17 s17 g48 o49 o47 ?_
          rcases st with ⟨s1, s2⟩ | s1
          · exact Or.inl ⟨s1, NP_skip s2 na⟩
          · exact Or.inr (FP_skip s1 na)
        · have vv : V (af Ls ((l : Int) + v15.toInt)) x20.toInt := by
            rcases lt with q | q
            · exact absurd (lgc0.mpr (by rw [q.1])) cf
            · exact q
          have bv := bV _ _ vv
          have kx := xe_bd x10 he
          have im : (Int32.toInt64 v15 * Int32.toInt64 x6).toInt = v15.toInt * e := lmul (a_wide rfl) (a_wide e6) (by omega) (by omega)
          have ic : (x20 + Int32.toInt64 v15 * Int32.toInt64 x6).toInt = x20.toInt + v15.toInt * e := a_addL rfl im (by omega) (by omega)
          have av : AV G e Ls V (l : Int) v15.toInt (x20.toInt + v15.toInt * e) := ⟨gx, x20.toInt, vv, rfl⟩
          rw [c7]
          refine ⟨fun cg => ?_, fun cg => ⟨hv7, ?_⟩⟩
          · have cg' := lgc_ge cg
            rw [ic] at cg'
            refine next z17 t17 s17 g48 o49 o47 ?_
            rcases st with ⟨s1, s2⟩ | s1
            · rw [s1, far_i] at cg'
              omega
            · exact Or.inr (FP_keep fA s1 av (by omega))
          · have cg' := lgc_nge cg
            rw [ic] at cg'
            intro z26 e26
            refine ⟨hv37, ?_⟩
            intro z27 e27
            have t26 : TX z26 := by rw [e26]; exact Ty_wL t17
            have t27 : TX z27 := by
              rw [e27]
              refine Ty_wR t26 ?_
              show -10 ≤ v15.toInt ∧ v15.toInt ≤ 40 - (((41 * i0 + l) % 41 : Nat) : Int)
              omega
            have w47 : gG z27 47 l = x20 + Int32.toInt64 v15 * Int32.toInt64 x6 := by
              rw [e27]
              show gG z26 47 l = _
              rw [e26, gG_upd, if_pos rfl]
            have w49 : gF z27 49 (41 * i0 + l) = v15 := by rw [e27, gF_upd, if_pos rfl]
            refine next z27 t27 ((s17.l e26).r (by decide) e27) ?_ (fun k hk' => ?_) (fun k hk' => ?_) (Or.inr ?_)
            · rw [e27]
              show gG z26 48 = _
              rw [e26, gG_ne (by decide)]; exact g48
            · rw [e27, gF_upd, if_neg hk', e26]; exact o49 k hk'
            · rw [e27]
              show gG z26 47 k = _
              rw [e26, gG_upd, if_neg hk']; exact o47 k hk'
            · rw [w47, w49, ic]
              rcases st with ⟨s1, s2⟩ | s1
              · exact NP_new fA s2 av
              · exact FP_new fA s1 av cg'
  refine L _ x11 z14 t14 Same.rf rfl (fun _ _ => rfl) (fun _ _ => rfl) (Int.le_refl _) h11.2 (Or.inl ⟨h47, fun x c hx' h => ?_⟩) (Nat.lt_succ_self _)
  have := ((hg x).mp h.1).1
  omega
set_option maxHeartbeats 1000000 in
theorem v_X7_choose (b1 b2 b3 : Int32) (z : St) (P : St → Prop) (s hb i0 : Nat) (M O I Ls W fu ld pr : Int) (V : Int → Int → Prop) (ht : TX z) (hs : b1.toInt = (s : Int)) (h5 : s ≤ 5) (hh : b2.toInt = (hb : Int)) (h168 : hb < 168) (hro : b3.toInt = 41 * (i0 : Int)) (hi0 : i0 ≤ 47) (eM : (gF z 41 s).toInt = M) (eO : (gF z 44 s).toInt = O) (eI : (gF z 43 s).toInt = I) (eL : (gF z 45 s).toInt = Ls) (eW : (gF z 46 s).toInt = W) (ef : (gF z 8 (gF z 40 s).toNatClampNeg).toInt = fu) (ed : (Fx z (gF z 40 s).toNatClampNeg hb).toInt = ld) (ep : (gF z 5 hb).toInt = pr) (hW : 1 ≤ W ∧ W ≤ 1000) (hfu : 0 ≤ fu ∧ fu ≤ 20000) (hld : 0 ≤ ld ∧ ld ≤ 100000) (hpr : -1000 ≤ pr ∧ pr ≤ 10000) (fV : ∀ l c c', V l c → V l c' → c = c') (bV : ∀ l c, V l c → -5000000000 ≤ c ∧ c ≤ 5000000000) (hlt : ∀ k : Nat, (k : Int) ≤ M → (gG z 48 k = 1000000000000000000 ∧ ∀ c, ¬ V (k : Int) c) ∨ V (k : Int) (gG z 48 k).toInt) (hk : ∀ z2 : St, TX z2 → Same [] [49] z z2 → gG z2 48 = gG z 48 → (∀ k, (k < 41 * i0 ∨ 41 * i0 + 41 ≤ k) → gF z2 49 k = gF z 49 k) → (∀ k : Nat, (k : Int) ≤ M → (gG z2 47 k = 1000000000000000000 ∧ ∀ x c, ¬ AV (gO M O I W fu ld) (pr * W) Ls V (k : Int) x c) ∨ FM (AV (gO M O I W fu ld) (pr * W) Ls V (k : Int)) (gG z2 47 k).toInt (gF z2 49 (41 * i0 + k)).toInt) → P z2) : wp_X7_choose b1 b2 b3 z P := by
  have f41 : 0 ≤ (gF z 41 s).toInt ∧ (gF z 41 s).toInt ≤ 40 := ht.2 41 _
  have f43 : 0 ≤ (gF z 43 s).toInt ∧ (gF z 43 s).toInt ≤ 10 := ht.2 43 _
  have f44 : 0 ≤ (gF z 44 s).toInt ∧ (gF z 44 s).toInt ≤ 10 := ht.2 44 _
  have f45 : 0 ≤ (gF z 45 s).toInt ∧ (gF z 45 s).toInt ≤ 3 := ht.2 45 _
  have f40 : 0 ≤ (gF z 40 s).toInt ∧ (gF z 40 s).toInt ≤ 3 := ht.2 40 _
  have e01 : (1 : Int32).toInt = 1 := rfl
  have c1 : b1.toNatClampNeg = s := by
    have := clampN (x := b1) (by omega)
    omega
  have c2 : b2.toNatClampNeg = hb := by
    have := clampN (x := b2) (by omega)
    omega
  have hv1 : vp_in b1 6 := vin hs (by omega) (by omega)
  have hv2 : vp_in b2 168 := vin hh (by omega) (by omega)
  have hb2 : 0 ≤ b2.toInt ∧ b2.toInt ≤ 167 := by omega
  have hv40 : vp_in (gF z 40 s) 4 := vin rfl f40.1 (by omega)
  unfold wp_X7_choose wp_X7_mostOut wp_X7_mostIn
  rw [c1, c2]
  refine ⟨hv1, v_X0_draws _ _ _ _ f40 hb2 ⟨hv1, hv1, ?_⟩⟩
  rw [c2]
  refine v_X7_mostWithin _ _ _ z _ f44 (by rw [eW]; exact hW) (fun r2 r0 r1 kO => ?_)
  rw [eO, eW, ed] at kO
  intro x3 e3
  refine ⟨hv1, hv40, hv1, v_X0_draws _ _ _ _ f40 hb2 ?_⟩
  rw [c2]
  intro y3 ey3
  have iy : y3.toInt = fu - ld := by rw [ey3]; exact a_sub ef ed (by omega) (by omega)
  refine ⟨hv1, hv1, v_X7_mostWithin _ _ _ z _ f43 (by rw [eW]; exact hW) (fun r5 r50 r51 kI => ?_)⟩
  rw [eI, eW, iy] at kI
  refine ⟨hv1, hv2, ?_⟩
  intro x6 e6
  have kw : -10000000 ≤ pr * W ∧ pr * W ≤ 10000000 := by
    have a := mulle hpr.1 (w := W) (by omega)
    have b := mulle hpr.2 (w := W) (by omega)
    omega
  have i6 : x6.toInt = pr * W := by
    rw [e6, a_mul eW ep (by rw [Int.mul_comm]; omega) (by rw [Int.mul_comm]; omega), Int.mul_comm]
  have i3 : x3.toInt = -r2.toInt := by rw [e3]; exact a_neg rfl (by omega) (by omega)
  intro K8 hK8
  have L : ∀ (n : Nat) (v7 : Int32) (z9 : St), TX z9 → Same [] [49] z z9 → gG z9 48 = gG z 48 → (∀ k, (k < 41 * i0 ∨ 41 * i0 + 41 ≤ k) → gF z9 49 k = gF z 49 k) → 0 ≤ v7.toInt → v7.toInt ≤ M + 1 → (∀ k : Nat, (k : Int) < v7.toInt → (gG z9 47 k = 1000000000000000000 ∧ ∀ x c, ¬ AV (gO M O I W fu ld) (pr * W) Ls V (k : Int) x c) ∨ FM (AV (gO M O I W fu ld) (pr * W) Ls V (k : Int)) (gG z9 47 k).toInt (gF z9 49 (41 * i0 + k)).toInt) → (M + 1 - v7.toInt).toNat < n → K8 v7 z9 := by
    intro n
    induction n with
    | zero => intro v7 z9 _ _ _ _ _ _ _ q; omega
    | succ n ih =>
      intro v7 z9 t9 s9 g48 o49 g0 g1 done gm
      have cv := clampN g0
      have r41 : gF z9 41 = gF z 41 := s9.2 41 (by decide)
      have r45 : gF z9 45 = gF z 45 := s9.2 45 (by decide)
      refine hK8 v7 z9 ⟨hv1, fun c => ?_, fun c => ?_⟩
      · rw [r41] at c
        have c' := i_lt eM rfl c
        exact hk z9 t9 s9 g48 o49 (fun k hk' => done k (by omega))
      · rw [r41] at c
        have c' := i_nlt eM rfl c
        rw [r41]
        intro x11 e11
        have in7 : (-v7).toInt = -v7.toInt := a_neg rfl (by omega) (by omega)
        have m11 := a_max i3 in7 e11
        refine ⟨hv1, ?_⟩
        intro x12 e12
        have is7 : (gF z 41 s - v7).toInt = M - v7.toInt := a_sub eM rfl (by omega) (by omega)
        have m12 := a_min (x := r5) (y := gF z 41 s - v7) rfl is7 e12
        refine ⟨vin rfl g0 (by omega), ?_⟩
        intro z13 e13
        have i37 : (b3 + v7).toInt = 41 * (i0 : Int) + v7.toInt := a_add hro rfl (by omega) (by omega)
        have c37 : (b3 + v7).toNatClampNeg = 41 * i0 + v7.toNatClampNeg := by
          have := clampN (x := b3 + v7) (by omega)
          omega
        refine ⟨vin i37 (by omega) (by omega), ?_⟩
        rw [c37]
        intro z14 e14
        have t13 : TX z13 := by rw [e13]; exact Ty_wL t9
        have t14 : TX z14 := by
          rw [e14]
          refine Ty_wR t13 ?_
          show -10 ≤ (0 : Int32).toInt ∧ (0 : Int32).toInt ≤ 40 - (((41 * i0 + v7.toNatClampNeg) % 41 : Nat) : Int)
          have e00 : (0 : Int32).toInt = 0 := rfl
          omega
        have s14 : Same [] [49] z z14 := (s9.l e13).r (by decide) e14
        have w48 : gG z14 48 = gG z 48 := by
          rw [e14]
          show gG z13 48 = _
          rw [e13, gG_ne (by decide)]; exact g48
        have w47 : ∀ k, gG z14 47 k = if k = v7.toNatClampNeg then 1000000000000000000 else gG z9 47 k := by
          intro k
          rw [e14]
          show gG z13 47 k = _
          rw [e13, gG_upd]
        have w49 : ∀ k, k ≠ 41 * i0 + v7.toNatClampNeg → gF z14 49 k = gF z9 49 k := by
          intro k hk'
          rw [e14, gF_upd, if_neg hk', e13]; rfl
        have hg : ∀ x : Int, gO M O I W fu ld ((v7.toNatClampNeg : Nat) : Int) x ↔ x11.toInt ≤ x ∧ x ≤ x12.toInt := by
          intro x
          rw [gO_rng ⟨r0, by omega⟩ ⟨r50, by omega⟩ kO kI]
          omega
        refine ch_in b1 b3 v7 x6 x11 x12 z14 _ s v7.toNatClampNeg i0 Ls (pr * W) M (gO M O I W fu ld) V t14 hs h5 cv.symm (by omega) (by omega) hro hi0 (by rw [s14.2 45 (by decide)]; exact eL) i6 kw hg (fun x h1 h2 => ?_) (by omega) (by omega) fV bV (fun k hk' => by rw [w48]; exact hlt k hk') (by rw [w47, if_pos rfl]) (fun z17 t17 s17 p48 p49 p47 res => ?_)
        · omega
        · intro x19 e19
          have i19 : x19.toInt = v7.toInt + 1 := by rw [e19]; exact a_add rfl e01 (by omega) (by omega)
          refine ih x19 z17 t17 (s14.tr s17 (by decide) (by decide)) (p48.trans w48) (fun k hk' => ?_) (by omega) (by omega) (fun k hk' => ?_) (by omega)
          · rw [p49 k (by omega), w49 k (by omega)]; exact o49 k hk'
          · by_cases e : k = v7.toNatClampNeg
            · rw [e]; exact res
            · rw [p47 k e, p49 (41 * i0 + k) (by omega), w47, if_neg e, w49 (41 * i0 + k) (by omega)]
              exact done k (by omega)
  exact L _ 0 z ht Same.rf rfl (fun _ _ => rfl) (by decide) (by have : (0 : Int32).toInt = 0 := rfl; omega) (fun k hk' => absurd hk' (by have : (0 : Int32).toInt = 0 := rfl; omega)) (Nat.lt_succ_self _)
abbrev GT (M O I W fu : Int) (ld : Nat → Int) (T : Nat) : Nat → Int → Int → Prop := fun d l x => gO M O I W fu (ld (T - d)) l x
abbrev eT (W : Int) (pr : Nat → Int) (T : Nat) : Nat → Int := fun d => pr (T - d) * W
theorem GT_10 {M O I W fu : Int} {ld : Nat → Int} {T : Nat} (hO : 0 ≤ O ∧ O ≤ 10) (hI : 0 ≤ I ∧ I ≤ 10) : ∀ d l x, GT M O I W fu ld T d l x → -10 ≤ x ∧ x ≤ 10 := by
  intro d l x h
  have := h.1
  omega
theorem eT_bd {W : Int} {pr : Nat → Int} {T : Nat} (hW : 1 ≤ W ∧ W ≤ 1000) (hp : ∀ h, h ≤ T → -1000 ≤ pr h ∧ pr h ≤ 10000) : ∀ d, -10000000 ≤ eT W pr T d ∧ eT W pr T d ≤ 10000000 := by
  intro d
  have q := hp (T - d) (by omega)
  have a := mulle q.1 (w := W) (by omega)
  have b := mulle q.2 (w := W) (by omega)
  show -10000000 ≤ pr (T - d) * W ∧ pr (T - d) * W ≤ 10000000
  omega
set_option maxHeartbeats 1000000 in
theorem v_X7_cheapest (b1 b2 b3 b4 : Int32) (z : St) (P : Int64 → St → Prop) (s nw n : Nat) (M O I Ls W fu wish lev : Int) (ld pr : Nat → Int) (ht : TX z) (hs : b1.toInt = (s : Int)) (h5 : s ≤ 5) (hnw : b2.toInt = (nw : Int)) (hn : b3.toInt = (n : Int)) (h1 : 1 ≤ n) (h48 : n ≤ 48) (h168 : nw + n ≤ 168) (hw : b4.toInt = wish) (eM : (gF z 41 s).toInt = M) (eO : (gF z 44 s).toInt = O) (eI : (gF z 43 s).toInt = I) (eL : (gF z 45 s).toInt = Ls) (eW : (gF z 46 s).toInt = W) (ef : (gF z 8 (gF z 40 s).toNatClampNeg).toInt = fu) (ev : (gF z 42 s).toInt = lev) (hlev : lev ≤ M) (ed : ∀ h : Nat, h < 168 → (Fx z (gF z 40 s).toNatClampNeg h).toInt = ld h) (ep : ∀ h : Nat, h < 168 → (gF z 5 h).toInt = pr h) (hW : 1 ≤ W ∧ W ≤ 1000) (hfu : 0 ≤ fu ∧ fu ≤ 20000) (hld : ∀ h : Nat, h < 168 → 0 ≤ ld h ∧ ld h ≤ 100000) (hpr : ∀ h : Nat, h < 168 → -1000 ≤ pr h ∧ pr h ≤ 10000) (hk : ∀ (r : Int64) (z2 : St), TX z2 → Same [] [49] z z2 → ((r = 1000000000000000000 ∧ ∀ c, ¬ VR (GT M O I W fu ld (nw + n - 1)) (eT W pr (nw + n - 1)) Ls wish n lev c) ∨ VR (GT M O I W fu ld (nw + n - 1)) (eT W pr (nw + n - 1)) Ls wish n lev r.toInt) → (∀ i, i < n → ∀ l : Nat, (l : Int) ≤ M → ∀ c, VR (GT M O I W fu ld (nw + n - 1)) (eT W pr (nw + n - 1)) Ls wish (n - i) (l : Int) c → CX (GT M O I W fu ld (nw + n - 1)) (eT W pr (nw + n - 1)) Ls wish (n - 1 - i) (l : Int) (gF z2 49 (41 * i + l)).toInt) → P r z2) : wp_X7_cheapest b1 b2 b3 b4 z P := by
  have f41 : 0 ≤ (gF z 41 s).toInt ∧ (gF z 41 s).toInt ≤ 40 := ht.2 41 _
  have f43 : 0 ≤ (gF z 43 s).toInt ∧ (gF z 43 s).toInt ≤ 10 := ht.2 43 _
  have f44 : 0 ≤ (gF z 44 s).toInt ∧ (gF z 44 s).toInt ≤ 10 := ht.2 44 _
  have f42 : 0 ≤ (gF z 42 s).toInt ∧ (gF z 42 s).toInt ≤ 40 := ht.2 42 _
  have e01 : (1 : Int32).toInt = 1 := rfl
  have em1 : (-1 : Int32).toInt = -1 := rfl
  have e00 : (0 : Int32).toInt = 0 := rfl
  have c1 : b1.toNatClampNeg = s := by
    have := clampN (x := b1) (by omega)
    omega
  have hv1 : vp_in b1 6 := vin hs (by omega) (by omega)
  have g10 := GT_10 (M := M) (W := W) (fu := fu) (ld := ld) (T := nw + n - 1) (O := O) (I := I) (by omega) (by omega)
  have ebd := eT_bd (pr := pr) (T := nw + n - 1) hW (fun h hh => hpr h (by omega))
  have vbd : ∀ d, d ≤ 48 → ∀ l c, VR (GT M O I W fu ld (nw + n - 1)) (eT W pr (nw + n - 1)) Ls wish d l c → -5000000000 ≤ c ∧ c ≤ 5000000000 := by
    intro d hd l c h
    have := VR_bd g10 ebd d l c h
    omega
  unfold wp_X7_cheapest
  rw [c1]
  intro K2 hK2
  have L1 : ∀ (q : Nat) (v1 : Int32) (z3 : St), TX z3 → Same [] [49] z z3 → 0 ≤ v1.toInt → v1.toInt ≤ M + 1 → (∀ k : Nat, (k : Int) < v1.toInt → (gG z3 48 k = 1000000000000000000 ∧ ∀ c, ¬ VR (GT M O I W fu ld (nw + n - 1)) (eT W pr (nw + n - 1)) Ls wish 0 (k : Int) c) ∨ VR (GT M O I W fu ld (nw + n - 1)) (eT W pr (nw + n - 1)) Ls wish 0 (k : Int) (gG z3 48 k).toInt) → (M + 1 - v1.toInt).toNat < q → K2 v1 z3 := by
    intro q
    induction q with
    | zero => intro v1 z3 _ _ _ _ _ h; omega
    | succ q ih =>
      intro v1 z3 t3 s3 g0 g1 hlt gm
      have cv := clampN g0
      have r41 : gF z3 41 = gF z 41 := s3.2 41 (by decide)
      refine hK2 v1 z3 ⟨hv1, fun c => ?_, fun c => ?_⟩
      · rw [r41] at c
        have c' := i_lt eM rfl c
        intro K6 hK6
        have L2 : ∀ (m : Nat) (v5 : Int32) (z7 : St), TX z7 → Same [] [49] z z7 → v5.toInt = (m : Int) - 1 → m ≤ n → (∀ k : Nat, (k : Int) ≤ M → (gG z7 48 k = 1000000000000000000 ∧ ∀ c, ¬ VR (GT M O I W fu ld (nw + n - 1)) (eT W pr (nw + n - 1)) Ls wish (n - m) (k : Int) c) ∨ VR (GT M O I W fu ld (nw + n - 1)) (eT W pr (nw + n - 1)) Ls wish (n - m) (k : Int) (gG z7 48 k).toInt) → (∀ i, m ≤ i → i < n → ∀ l : Nat, (l : Int) ≤ M → ∀ c, VR (GT M O I W fu ld (nw + n - 1)) (eT W pr (nw + n - 1)) Ls wish (n - i) (l : Int) c → CX (GT M O I W fu ld (nw + n - 1)) (eT W pr (nw + n - 1)) Ls wish (n - 1 - i) (l : Int) (gF z7 49 (41 * i + l)).toInt) → K6 v5 z7 := by
          intro m
          induction m with
          | zero =>
            intro v5 z7 t7 s7 hv hm lt ch
            have r42 : gF z7 42 = gF z 42 := s7.2 42 (by decide)
            refine hK6 v5 z7 ⟨fun _ => ⟨hv1, ?_⟩, fun cc => absurd (i_nlt (q := 0) rfl rfl cc) (by omega)⟩
            rw [r42]
            refine ⟨vin rfl f42.1 (by omega), ?_⟩
            have c42 := clampN f42.1
            have l0 := lt (gF z 42 s).toNatClampNeg (by omega)
            rw [show (((gF z 42 s).toNatClampNeg : Nat) : Int) = lev by omega, Nat.sub_zero] at l0
            exact hk _ z7 t7 s7 l0 (fun i hi l hl c hc => ch i (Nat.zero_le _) hi l hl c hc)
          | succ m ihm =>
            intro v5 z7 t7 s7 hv hm lt ch
            have hv' : v5.toInt = (m : Int) := by omega
            have i25 : (b2 + v5).toInt = ((nw + m : Nat) : Int) := (a_add hnw hv' (by omega) (by omega)).trans (by omega)
            have i541 : (v5 * (41 : Int32)).toInt = 41 * (m : Int) := (a_mul hv' (show (41 : Int32).toInt = 41 from rfl) (by omega) (by omega)).trans (by omega)
            have r40 : gF z7 40 = gF z 40 := s7.2 40 (by decide)
            have hT : nw + n - 1 - (n - (m + 1)) = nw + m := by omega
            refine hK6 v5 z7 ⟨fun cc => absurd (i_lt (q := 0) rfl rfl cc) (by omega), fun _ => ?_⟩
            refine v_X7_choose b1 (b2 + v5) (v5 * (41 : Int32)) z7 _ s (nw + m) m M O I Ls W fu (ld (nw + m)) (pr (nw + m)) (VR (GT M O I W fu ld (nw + n - 1)) (eT W pr (nw + n - 1)) Ls wish (n - (m + 1))) t7 hs h5 i25 (by omega) i541 (by omega) (by rw [s7.2 41 (by decide)]; exact eM) (by rw [s7.2 44 (by decide)]; exact eO) (by rw [s7.2 43 (by decide)]; exact eI) (by rw [s7.2 45 (by decide)]; exact eL) (by rw [s7.2 46 (by decide)]; exact eW) (by rw [r40, s7.2 8 (by decide)]; exact ef) ?_ (by rw [s7.2 5 (by decide)]; exact ep _ (by omega)) hW hfu (hld _ (by omega)) (hpr _ (by omega)) (VR_uniq _) (vbd _ (by omega)) lt (fun z9 t9 s9 g48 o49 res => ?_)
            · rw [r40]
              unfold Fx
              rw [s7.2 9 (by decide), s7.2 10 (by decide)]
              exact ed _ (by omega)
            · refine ⟨⟨by decide, by decide, by decide, by decide, by decide⟩, ?_⟩
              intro z11 e11 x12 e12
              have i12 : x12.toInt = (m : Int) - 1 := by
                rw [e12]
                exact a_add hv' em1 (by omega) (by omega)
              have s9' : Same [] [49] z z9 := s7.tr s9 (by decide) (by decide)
              have w48 : ∀ k, k < 41 → gG z11 48 k = gG z9 47 k := by
                intro k hk'
                rw [e11, gG_wL]
                show va_cpy (gG z9 47) (gG z9 48) 0 0 41 k = _
                unfold va_cpy
                rw [if_pos (by omega), Nat.zero_add, Nat.sub_zero]
              have ed1 : n - m = (n - (m + 1)) + 1 := by omega
              have key : ∀ k : Nat, (k : Int) ≤ M → (gG z9 47 k = 1000000000000000000 ∧ ∀ c, ¬ VR (GT M O I W fu ld (nw + n - 1)) (eT W pr (nw + n - 1)) Ls wish (n - m) (k : Int) c) ∨ (VR (GT M O I W fu ld (nw + n - 1)) (eT W pr (nw + n - 1)) Ls wish (n - m) (k : Int) (gG z9 47 k).toInt ∧ CX (GT M O I W fu ld (nw + n - 1)) (eT W pr (nw + n - 1)) Ls wish (n - (m + 1)) (k : Int) (gF z9 49 (41 * m + k)).toInt) := by
                intro k hk'
                rw [ed1]
                have hA : AV (gO M O I W fu (ld (nw + m))) (pr (nw + m) * W) Ls (VR (GT M O I W fu ld (nw + n - 1)) (eT W pr (nw + n - 1)) Ls wish (n - (m + 1))) (k : Int) = AV (GT M O I W fu ld (nw + n - 1) (n - (m + 1))) (eT W pr (nw + n - 1) (n - (m + 1))) Ls (VR (GT M O I W fu ld (nw + n - 1)) (eT W pr (nw + n - 1)) Ls wish (n - (m + 1))) (k : Int) := by
                  show _ = AV (gO M O I W fu (ld (nw + n - 1 - (n - (m + 1))))) (pr (nw + n - 1 - (n - (m + 1))) * W) Ls _ (k : Int)
                  rw [hT]
                rcases res k hk' with q | q
                · rw [hA] at q
                  exact Or.inl ⟨q.1, fun c h => by
                    obtain ⟨x, hx⟩ := h
                    exact q.2 x c hx.1⟩
                · rw [hA] at q
                  exact Or.inr ⟨⟨_, q⟩, ⟨_, q⟩⟩
              refine ihm x12 z11 (by rw [e11]; exact Ty_wL t9) (s9'.l e11) i12 (by omega) (fun k hk' => ?_) (fun i him hin l hl c hc => ?_)
              · rw [w48 k (by omega)]
                rcases key k hk' with q | q
                · exact Or.inl q
                · exact Or.inr q.1
              · have r49 : gF z11 49 = gF z9 49 := by rw [e11]; rfl
                rw [r49]
                by_cases e : i = m
                · rw [e] at hc ⊢
                  rw [show n - 1 - m = n - (m + 1) by omega]
                  rcases key l hl with q | q
                  · exact absurd hc (q.2 c)
                  · exact q.2
                · rw [o49 (41 * i + l) (by omega)]
                  exact ch i (by omega) hin l hl c hc
        intro x13 e13
        have i13 : x13.toInt = (n : Int) - 1 := by rw [e13]; exact a_sub hn e01 (by omega) (by omega)
        refine L2 n x13 z3 t3 s3 i13 (Nat.le_refl _) (fun k hk' => ?_) (fun i h1 h2 => absurd h2 (by omega))
        rw [Nat.sub_self]
        exact hlt k (by omega)
      · rw [r41] at c
        have c' := i_nlt eM rfl c
        intro K16 hK16
        have go : ∀ s14 : Int64, ((s14 = 1000000000000000000 ∧ v1.toInt < wish) ∨ (s14 = 0 ∧ wish ≤ v1.toInt)) → K16 s14 v1 := by
          intro s14 h14
          refine hK16 s14 v1 ⟨vin rfl g0 (by omega), ?_⟩
          intro z17 e17 x18 e18
          have i18 : x18.toInt = v1.toInt + 1 := by rw [e18]; exact a_add rfl e01 (by omega) (by omega)
          refine ih x18 z17 (by rw [e17]; exact Ty_wL t3) (s3.l e17) (by omega) (by omega) (fun k hk' => ?_) (by omega)
          rw [e17, gG_upd]
          by_cases e : k = v1.toNatClampNeg
          · rw [if_pos e]
            rcases h14 with q | q
            · refine Or.inl ⟨q.1, fun c h => ?_⟩
              have : wish ≤ (k : Int) := h.1
              omega
            · refine Or.inr ?_
              rw [q.1]
              show wish ≤ (k : Int) ∧ (0 : Int64).toInt = 0
              exact ⟨by omega, rfl⟩
          · rw [if_neg e]; exact hlt k (by omega)
        refine ⟨fun cw => go _ (Or.inl ⟨rfl, i_lt rfl hw cw⟩), fun cw => go _ (Or.inr ⟨rfl, i_nlt rfl hw cw⟩)⟩
  exact L1 _ 0 z ht Same.rf (by decide) (by omega) (fun k hk' => absurd hk' (by omega)) (Nat.lt_succ_self _)
theorem v_X7_keep (b1 b2 : Int32) (z : St) (P : St → Prop) (s n : Nat) (M Ls wish lev : Int) (G : Nat → Int → Int → Prop) (e : Nat → Int) (ht : TX z) (hs : b1.toInt = (s : Int)) (h5 : s ≤ 5) (hn : b2.toInt = (n : Int)) (h48 : n ≤ 48) (eM : (gF z 41 s).toInt = M) (eL : (gF z 45 s).toInt = Ls) (ev : (gF z 42 s).toInt = lev) (hlev : lev ≤ M) (hG : ∀ d l x, G d l x → 0 ≤ l + x ∧ l + x ≤ M) (hV : ∃ c, VR G e Ls wish n lev c) (hch : ∀ i, i < n → ∀ l : Nat, (l : Int) ≤ M → ∀ c, VR G e Ls wish (n - i) (l : Int) c → CX G e Ls wish (n - 1 - i) (l : Int) (gF z 49 (41 * i + l)).toInt) (hk : ∀ z2 : St, TX z2 → Same [3915] [50, 51] z z2 → gI z2 3915 = b2 → FWY G e Ls wish lev n (gF z2 50) (gF z2 51) → P z2) : wp_X7_keep b1 b2 z P := by
  have f41 : 0 ≤ (gF z 41 s).toInt ∧ (gF z 41 s).toInt ≤ 40 := ht.2 41 _
  have f45 : 0 ≤ (gF z 45 s).toInt ∧ (gF z 45 s).toInt ≤ 3 := ht.2 45 _
  have f42 : 0 ≤ (gF z 42 s).toInt ∧ (gF z 42 s).toInt ≤ 40 := ht.2 42 _
  have e01 : (1 : Int32).toInt = 1 := rfl
  have c1 : b1.toNatClampNeg = s := by
    have := clampN (x := b1) (by omega)
    omega
  have hv1 : vp_in b1 6 := vin hs (by omega) (by omega)
  unfold wp_X7_keep
  rw [c1]
  refine ⟨hv1, ?_⟩
  intro x1 ex1 K4 hK4
  have L : ∀ (q i : Nat) (v2 v3 : Int32) (z5 : St), TX z5 → Same [3915] [50, 51] z z5 → v3.toInt = (i : Int) → i ≤ n → (v2.toInt = if i = 0 then lev else (gF z5 51 (i - 1)).toInt) → (0 ≤ v2.toInt ∧ v2.toInt ≤ M) → (∃ c, VR G e Ls wish (n - i) v2.toInt c) → (∀ j, j < i → CX G e Ls wish (n - 1 - j) (if j = 0 then lev else (gF z5 51 (j - 1)).toInt) (gF z5 50 j).toInt ∧ (gF z5 51 j).toInt = af Ls ((if j = 0 then lev else (gF z5 51 (j - 1)).toInt) + (gF z5 50 j).toInt)) → n - i < q → K4 v2 v3 z5 := by
    intro q
    induction q with
    | zero => intro i v2 v3 z5 _ _ _ _ _ _ _ _ h; omega
    | succ q ih =>
      intro i v2 v3 z5 t5 s5 hv hi hl hr hV5 hp gm
      have cv : v3.toNatClampNeg = i := by
        have := clampN (x := v3) (by omega)
        omega
      have c2 := clampN hr.1
      refine hK4 v2 v3 z5 ⟨fun c z7 e7 => ?_, fun c => ?_⟩
      · have c' := i_le hn hv c
        have ei : i = n := by omega
        rw [ei] at hp
        refine hk z7 (by rw [e7]; exact Ty_wI t5 (show 0 ≤ b2.toInt ∧ b2.toInt ≤ 48 by omega)) (s5.i (by decide) e7) (by rw [e7]; rfl) ?_
        rw [e7]
        exact hp
      · have c' := i_nle hn hv c
        have hin : i < n := by omega
        have ix : (v3 * (41 : Int32) + v2).toInt = 41 * (i : Int) + v2.toInt := by
          have a := a_mul hv (show (41 : Int32).toInt = 41 from rfl) (by omega) (by omega)
          have := a_add a (rfl : v2.toInt = v2.toInt) (by omega) (by omega)
          omega
        have cx : (v3 * (41 : Int32) + v2).toNatClampNeg = 41 * i + v2.toNatClampNeg := by
          have := clampN (x := v3 * (41 : Int32) + v2) (by omega)
          omega
        have hv48 : vp_in v3 48 := vin hv (by omega) (by omega)
        have r49 : gF z5 49 = gF z 49 := s5.2 49 (by decide)
        rw [cx, cv, r49]
        refine ⟨vin ix (by omega) (by omega), hv48, ?_⟩
        intro z8 e8
        have t8 : TX z8 := by rw [e8]; exact Ty_wR t5 trivial
        have g50 : gF z8 50 i = gF z 49 (41 * i + v2.toNatClampNeg) := by rw [e8, gF_upd, if_pos rfl]
        have g45 : gF z8 45 = gF z 45 := by rw [e8]; exact s5.2 45 (by decide)
        obtain ⟨cc, hcc⟩ := hV5
        have hcx := hch i hin v2.toNatClampNeg (by omega) cc (by rw [c2]; exact hcc)
        rw [c2] at hcx
        obtain ⟨c3, fm⟩ := id hcx
        obtain ⟨⟨gx, v, hv', _⟩, _⟩ := id fm
        have gr := hG _ _ _ gx
        have fx49 : -10 ≤ (gF z 49 (41 * i + v2.toNatClampNeg)).toInt ∧ (gF z 49 (41 * i + v2.toNatClampNeg)).toInt ≤ 40 - (((41 * i + v2.toNatClampNeg) % 41 : Nat) : Int) := ht.2 49 _
        have fa := af_in (Ls := Ls) (l := v2.toInt + (gF z 49 (41 * i + v2.toNatClampNeg)).toInt) (M := M) (by omega) gr
        refine ⟨hv48, hv1, ?_⟩
        rw [g50, g45]
        intro x9 e9
        have ia : (v2 + gF z 49 (41 * i + v2.toNatClampNeg)).toInt = v2.toInt + (gF z 49 (41 * i + v2.toNatClampNeg)).toInt := a_add rfl rfl (by omega) (by omega)
        have ib : (v2 + gF z 49 (41 * i + v2.toNatClampNeg) - gF z 45 s).toInt = v2.toInt + (gF z 49 (41 * i + v2.toNatClampNeg)).toInt - Ls := a_sub ia eL (by omega) (by omega)
        have i9 : x9.toInt = af Ls (v2.toInt + (gF z 49 (41 * i + v2.toNatClampNeg)).toInt) := by
          rw [e9]
          unfold af
          by_cases w : (0 : Int32) < v2 + gF z 49 (41 * i + v2.toNatClampNeg) - gF z 45 s
          · have w' := i_lt rfl ib w
            rw [show (0 : Int32).toInt = 0 from rfl] at w'
            rw [if_pos w, if_pos (by omega), ib]
          · have w' := i_nlt rfl ib w
            rw [show (0 : Int32).toInt = 0 from rfl] at w'
            rw [if_neg w]
            by_cases u : Ls ≤ v2.toInt + (gF z 49 (41 * i + v2.toNatClampNeg)).toInt
            · rw [if_pos u, show (0 : Int32).toInt = 0 from rfl]; omega
            · rw [if_neg u]; rfl
        refine ⟨hv48, ?_⟩
        intro z10 e10 x11 e11
        have i11 : x11.toInt = (i : Int) + 1 := by rw [e11]; exact a_add hv e01 (by omega) (by omega)
        have q51 : ∀ k, gF z10 51 k = if k = i then x9 else gF z5 51 k := by
          intro k
          rw [e10, gF_upd, e8]; rfl
        have q50 : ∀ k, gF z10 50 k = if k = i then gF z 49 (41 * i + v2.toNatClampNeg) else gF z5 50 k := by
          intro k
          rw [e10]
          show gF z8 50 k = _
          rw [e8, gF_upd]
        refine ih (i + 1) x9 x11 z10 (by rw [e10]; exact Ty_wR t8 trivial) ((s5.r (by decide) e8).r (by decide) e10) (by omega) (by omega) ?_ (by omega) ⟨v, ?_⟩ (fun j hj => ?_) (by omega)
        · rw [if_neg (Nat.succ_ne_zero i), Nat.add_sub_cancel, q51, if_pos rfl]
        · rw [i9, show n - (i + 1) = n - 1 - i by omega]; exact hv'
        · by_cases ej : j = i
          · rw [ej, q50, if_pos rfl, q51 i, if_pos rfl]
            have lp : (if i = 0 then lev else (gF z10 51 (i - 1)).toInt) = v2.toInt := by
              rw [hl]
              by_cases i0 : i = 0
              · rw [if_pos i0, if_pos i0]
              · rw [if_neg i0, if_neg i0, q51, if_neg (by omega)]
            rw [lp]
            exact ⟨hcx, i9⟩
          · have h0 := hp j (by omega)
            rw [q50, if_neg ej, q51 j, if_neg ej]
            by_cases j0 : j = 0
            · rw [if_pos j0] at h0 ⊢; exact h0
            · rw [if_neg j0] at h0 ⊢
              rw [q51, if_neg (by omega)]; exact h0
  refine L (n + 1) 0 x1 0 z ht Same.rf rfl (Nat.zero_le _) (by rw [if_pos rfl, ex1]; exact ev) (by rw [ex1]; omega) (by rw [ex1, ev, Nat.sub_zero]; exact hV) (fun j hj => absurd hj (Nat.not_lt_zero _)) (by omega)
