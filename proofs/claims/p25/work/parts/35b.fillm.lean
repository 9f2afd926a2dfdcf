-- THE REFERENCE'S fill() ENDS: whatever the table can, some move reaches
def WIT (z1 : St) (b1 : Int32) (zz : St) (i l x : Int32) : Prop :=
  -(gF z1 30 b1.toNatClampNeg).toInt ≤ x.toInt ∧ x.toInt ≤ (gF z1 29 b1.toNatClampNeg).toInt ∧ gV (gF z1 4) (gF z1 26) (gF z1 27) (gF z1 32) b1 l x (LD z1 (gF z1 26 b1.toNatClampNeg) (gI z1 2 + i) (-1)) ≠ 0 ∧ gF zz 34 ((41 : Int32) * i + (41 : Int32) + aV (gF z1 31) b1 (l + x)).toNatClampNeg ≠ 0 ∧ gG zz 33 ((41 : Int32) * i + (41 : Int32) + aV (gF z1 31) b1 (l + x)).toNatClampNeg + Int32.toInt64 x * (Int32.toInt64 (PR z1 (gI z1 2 + i) (gI z1 2)) * Int32.toInt64 (gF z1 32 b1.toNatClampNeg)) = gG zz 33 ((41 : Int32) * i + l).toNatClampNeg
theorem i41 {i l : Int32} (h0 : 0 ≤ i.toInt ∧ i.toInt ≤ 48) (h1 : 0 ≤ l.toInt ∧ l.toInt ≤ 40) : ((41 : Int32) * i + l).toInt = 41 * i.toInt + l.toInt := a_add (a_mul (show (41 : Int32).toInt = 41 from rfl) rfl (by omega) (by omega)) rfl (by omega) (by omega)
theorem i82 {i l : Int32} (h0 : 0 ≤ i.toInt ∧ i.toInt ≤ 47) (h1 : 0 ≤ l.toInt ∧ l.toInt ≤ 40) : ((41 : Int32) * i + (41 : Int32) + l).toInt = 41 * i.toInt + 41 + l.toInt := a_add (a_add (a_mul (show (41 : Int32).toInt = 41 from rfl) rfl (by omega) (by omega)) (show (41 : Int32).toInt = 41 from rfl) (by omega) (by omega)) rfl (by omega) (by omega)
theorem WIT_mv {z1 : St} {b1 : Int32} {zz zy : St} {i l x : Int32} (t1 : TM z1) (h : WIT z1 b1 zz i l x) (hi : 0 ≤ i.toInt ∧ i.toInt ≤ 47) (hl : 0 ≤ l.toInt ∧ l.toInt ≤ 40) (hb : ∀ k : Nat, 41 * i.toInt + 41 ≤ k → gF zy 34 k = gF zz 34 k ∧ gG zy 33 k = gG zz 33 k) (he : gG zy 33 ((41 : Int32) * i + l).toNatClampNeg = gG zz 33 ((41 : Int32) * i + l).toNatClampNeg) : WIT z1 b1 zy i l x := by
  have f31 : 0 ≤ (gF z1 31 b1.toNatClampNeg).toInt ∧ (gF z1 31 b1.toNatClampNeg).toInt ≤ 3 := t1.2 31 _
  have f27 : 0 ≤ (gF z1 27 b1.toNatClampNeg).toInt ∧ (gF z1 27 b1.toNatClampNeg).toInt ≤ 40 := t1.2 27 _
  obtain ⟨a, b, c, d, e⟩ := h
  have g := gV_in c
  have av := aV_in (s := b1) f31 g.1
  have ii := i82 hi (l := aV (gF z1 31) b1 (l + x)) (by omega)
  have cc := clampN (x := (41 : Int32) * i + (41 : Int32) + aV (gF z1 31) b1 (l + x)) (by omega)
  have q := hb ((41 : Int32) * i + (41 : Int32) + aV (gF z1 31) b1 (l + x)).toNatClampNeg (by omega)
  exact ⟨a, b, c, by rw [q.1]; exact d, by rw [q.2, he]; exact e⟩
theorem gG_upd {z : St} {k i j : Nat} {v : Int64} : gG (wL z k (vp_updL (gG z k) i v)) k j = if j = i then v else gG z k j := by
  show va_up z.2.2.2 k (vp_updL (gG z k) i v) k j = _
  unfold va_up
  rw [if_pos rfl]
  rfl
theorem narB0 : vp_nar .boolean (0 : Int32) = 0 := by decide
theorem narB1 : vp_nar .boolean (1 : Int32) ≠ 0 := by decide
theorem LD_same {I F : List Nat} {z zz : St} {b1 b2 b3 : Int32} (s : Same I F z zz) (hI : 12 ∉ I) (h5 : 5 ∉ F) (h6 : 6 ∉ F) (h9 : 9 ∉ F) (h10 : 10 ∉ F) (h11 : 11 ∉ F) (h12 : 12 ∉ F) : LD zz b1 b2 b3 = LD z b1 b2 b3 := by
  unfold LD
  rw [s.1 12 hI, s.2 5 h5, s.2 6 h6, s.2 9 h9, s.2 10 h10, s.2 11 h11, s.2 12 h12]
theorem PR_same {I F : List Nat} {z zz : St} {b1 b2 : Int32} (s : Same I F z zz) (h3 : 3 ∉ I) (h7 : 7 ∉ I) (g1 : 1 ∉ F) (g2 : 2 ∉ F) (g3 : 3 ∉ F) : PR zz b1 b2 = PR z b1 b2 := by
  unfold PR
  rw [s.1 3 h3, s.1 7 h7, s.2 1 g1, s.2 2 g2, s.2 3 g3]
abbrev FL9 : List Nat := [34, 35, 36]
set_option maxHeartbeats 2000000 in
theorem s_X9_fill (b1 b2 b3 : Int32) (z : St) (P : Int64 → St → Prop) (ht : TM z) (hrn : RN z) (hk : ∀ (r : Int64) (z2 : St), TM z2 → Same [0, 1, 55] FL9 z z2 → P r z2) : wp_X9_fill b1 b2 b3 z P := by
  have e00 : (0 : Int32).toInt = 0 := rfl
  have e48 : (48 : Int64).toInt = 48 := rfl
  have e01 : (1 : Int64).toInt = 1 := rfl
  unfold wp_X9_fill
  intro z1 e1
  have t1 : TM z1 := by rw [e1]; exact Ty_wI ht trivial
  have s1 : Same [0, 1, 55] FL9 z z1 := Same.rf.i (by decide) e1
  have rn1 : RN z1 := RN_same hrn s1 (by decide) (by decide)
  have f2 : 0 ≤ (gI z1 2).toInt ∧ (gI z1 2).toInt ≤ 167 := t1.1 2
  refine s_X9_in _ _ _ _ _ t1 (fun r3 hr3 => ?_)
  rw [e48, e01, show (Int32.toInt64 b2).toInt = b2.toInt from a_wide rfl] at hr3
  intro K4 hK4
  have h4 : K4 := hK4 (fun z5 e5 => hk _ z5 (by rw [e5]; exact Ty_wI t1 trivial) (s1.i (by decide) e5))
  refine ⟨fun _ => h4, fun c3 => ⟨fun _ => h4, fun c2 => ⟨fun _ => h4, fun _ => ?_⟩⟩⟩
  have hb2 : 1 ≤ b2.toInt ∧ b2.toInt ≤ 48 := by
    rcases hr3 with q | q
    · exact q.2
    · exact absurd q.1 c3
  have hn : (gI z1 2).toInt + b2.toInt ≤ 168 := i_nlt (x := (168 : Int32)) rfl (a_add rfl rfl (by omega) (by omega)) c2
  refine s_X9_isStore _ _ _ t1 (fun r10 hr10 => ?_)
  intro K11 hK11
  have h11 : K11 := by
    refine hK11 ?_
    refine s_X9_isStore _ _ _ t1 (fun r13 hr13 => ⟨fun c13 => ?_, fun _ z107 e107 => hk _ z107 (by rw [e107]; exact Ty_wI t1 trivial) (s1.i (by decide) e107)⟩)
    have f43 : 0 ≤ (gI z1 43).toInt ∧ (gI z1 43).toInt ≤ 6 := t1.1 43
    have hb1 : 0 ≤ b1.toInt ∧ b1.toInt ≤ 5 := by
      rcases hr13 with q | q
      · omega
      · exact absurd q.1 c13
    have hv6 : vp_in b1 6 := vin rfl hb1.1 (by omega)
    have f27 : 0 ≤ (gF z1 27 b1.toNatClampNeg).toInt ∧ (gF z1 27 b1.toNatClampNeg).toInt ≤ 40 := t1.2 27 _
    have f28 : 0 ≤ (gF z1 28 b1.toNatClampNeg).toInt ∧ (gF z1 28 b1.toNatClampNeg).toInt ≤ 40 := t1.2 28 _
    have f29 : 0 ≤ (gF z1 29 b1.toNatClampNeg).toInt ∧ (gF z1 29 b1.toNatClampNeg).toInt ≤ 10 := t1.2 29 _
    have f30 : 0 ≤ (gF z1 30 b1.toNatClampNeg).toInt ∧ (gF z1 30 b1.toNatClampNeg).toInt ≤ 10 := t1.2 30 _
    have f31 : 0 ≤ (gF z1 31 b1.toNatClampNeg).toInt ∧ (gF z1 31 b1.toNatClampNeg).toInt ≤ 3 := t1.2 31 _
    have f26 : 0 ≤ (gF z1 26 b1.toNatClampNeg).toInt ∧ (gF z1 26 b1.toNatClampNeg).toInt ≤ 3 := t1.2 26 _
    have hlm := rn1 b1.toNatClampNeg
    refine ⟨hv6, ?_⟩
    intro x15 e15
    have i15 : x15.toInt = (gF z1 27 b1.toNatClampNeg).toInt + 1 := by rw [e15]; exact a_add rfl rfl (by omega) (by omega)
    intro K17 hK17
    have L17 : ∀ (n : Nat) (v16 : Int32) (z18 : St), TM z18 → Same [1, 55] FL9 z1 z18 → 0 ≤ v16.toInt → v16.toInt ≤ 41 → (41 - v16.toInt).toNat < n → K17 v16 z18 := by
      intro n
      induction n with
      | zero => intro v16 z18 _ _ _ _ q; omega
      | succ n ih =>
        intro v16 z18 t18 s18 g0 g1 gm
        refine hK17 v16 z18 ⟨fun _ => ?_, fun c => ?_⟩
        · -- backwards over the hours
          intro K21 hK21
          have L21 : ∀ (m : Nat) (v20 : Int32) (z22 : St), TM z22 → Same [1, 55] FL9 z1 z22 → -1 ≤ v20.toInt → v20.toInt < b2.toInt → (∀ i l : Int32, v20.toInt < i.toInt → i.toInt < b2.toInt → 0 ≤ l.toInt → l.toInt ≤ (gF z1 27 b1.toNatClampNeg).toInt → gF z22 34 ((41 : Int32) * i + l).toNatClampNeg ≠ 0 → ∃ x, WIT z1 b1 z22 i l x) → (v20.toInt + 1).toNat < m → K21 v20 z22 := by
            intro m
            induction m with
            | zero => intro v20 z22 _ _ _ _ _ q; omega
            | succ m ihm =>
              intro v20 z22 t22 s22 a0 a1 hw am
              have q2 : gI z22 2 = gI z1 2 := s22.1 2 (by decide)
              have q26 : gF z22 26 = gF z1 26 := s22.2 26 (by decide)
              have q28 : gF z22 28 = gF z1 28 := s22.2 28 (by decide)
              have q32 : gF z22 32 = gF z1 32 := s22.2 32 (by decide)
              refine hK21 v20 z22 ⟨fun c => ⟨hv6, by rw [q28]; exact vin rfl f28.1 (by omega), fun cc => ⟨hv6, ?_⟩, fun _ z66 e66 => hk _ z66 (by rw [e66]; exact Ty_wI t22 trivial) ((s1.tr s22 (by decide) (by decide)).i (by decide) e66)⟩, fun c => ⟨hv6, ?_⟩⟩
              · -- the way
                have c' : v20.toInt < 0 := i_lt rfl rfl c
                intro x25 e25
                rw [q28] at e25 cc
                intro K28 hK28
                have L28 : ∀ (p : Nat) (v26 v27 : Int32) (z29 : St), TM z29 → Same [1, 55] FL9 z1 z29 → gF z29 34 = gF z22 34 → gG z29 33 = gG z22 33 → 0 ≤ v26.toInt → v26.toInt ≤ (gF z1 27 b1.toNatClampNeg).toInt → 0 ≤ v27.toInt → v27.toInt ≤ b2.toInt → (v27.toInt < b2.toInt → gF z22 34 ((41 : Int32) * v27 + v26).toNatClampNeg ≠ 0) → (b2.toInt - v27.toInt).toNat < p → K28 v26 v27 z29 := by
                  intro p
                  induction p with
                  | zero => intro v26 v27 z29 _ _ _ _ _ _ _ _ _ q; omega
                  | succ p ihp =>
                    intro v26 v27 z29 t29 s29 w34 w33 b0 b01 d0 d1 hcan pm
                    have y2 : gI z29 2 = gI z1 2 := s29.1 2 (by decide)
                    have y26 : gF z29 26 = gF z1 26 := s29.2 26 (by decide)
                    have y28 : gF z29 28 = gF z1 28 := s29.2 28 (by decide)
                    have y30 : gF z29 30 = gF z1 30 := s29.2 30 (by decide)
                    have y31 : gF z29 31 = gF z1 31 := s29.2 31 (by decide)
                    have y32 : gF z29 32 = gF z1 32 := s29.2 32 (by decide)
                    have y4 : gF z29 4 = gF z1 4 := s29.2 4 (by decide)
                    have y27 : gF z29 27 = gF z1 27 := s29.2 27 (by decide)
                    refine hK28 v26 v27 z29 ⟨fun _ z31 e31 z32 e32 => ⟨hv6, ?_, ?_⟩, fun c => ⟨hv6, ?_⟩⟩
                    · rw [e32, e31]; show vp_in (gF z29 28 b1.toNatClampNeg) 2009; rw [y28]; exact vin rfl f28.1 (by omega)
                    · have t31 : TM z31 := by rw [e31]; exact Ty_wI t29 (show 0 ≤ b2.toInt ∧ b2.toInt ≤ 48 by omega)
                      exact hk _ z32 (by rw [e32]; exact Ty_wI t31 trivial) (((s1.tr s29 (by decide) (by decide)).i (by decide) e31).i (by decide) e32)
                    · have cd := i_nle rfl rfl c
                      have iy : (gI z1 2 + v27).toInt = (gI z1 2).toInt + v27.toInt := a_add rfl rfl (by omega) (by omega)
                      obtain ⟨x0, hx⟩ := hw v27 v26 (by omega) cd b0 b01 (hcan cd)
                      have hx' := hx
                      obtain ⟨u1, u2, u3, u4, u5⟩ := hx'
                      rw [y2, y26]
                      refine v_X9_loadOf _ _ _ _ _ t29 f26 (by omega) ?_
                      refine v_X9_priceOf _ _ _ _ t29 ⟨hv6, ?_⟩
                      rw [LD_same s29 (by decide) (by decide) (by decide) (by decide) (by decide) (by decide) (by decide), PR_same s29 (by decide) (by decide) (by decide) (by decide) (by decide), y32, y30]
                      intro x37 e37
                      refine ⟨hv6, ?_⟩
                      intro x38 e38
                      have i38 : x38.toInt = -(gF z1 30 b1.toNatClampNeg).toInt := by rw [e38]; exact a_neg rfl (by omega) (by omega)
                      intro K41 hK41
                      have L41 : ∀ (o : Nat) (v39 v40 : Int32), -10 ≤ v39.toInt → v39.toInt ≤ x0.toInt → (v40 = 0 ∨ (v40 = 1 ∧ gV (gF z1 4) (gF z1 26) (gF z1 27) (gF z1 32) b1 v26 v39 (LD z1 (gF z1 26 b1.toNatClampNeg) (gI z1 2 + v27) (-1)) ≠ 0 ∧ gF z22 34 ((41 : Int32) * v27 + (41 : Int32) + aV (gF z1 31) b1 (v26 + v39)).toNatClampNeg ≠ 0)) → (2 * (x0.toInt - v39.toInt) + 1 - v40.toInt).toNat < o → K41 v39 v40 := by
                        intro o
                        induction o with
                        | zero => intro v39 v40 _ _ _ q; omega
                        | succ o iho =>
                          intro v39 v40 k0 k1 k2 km
                          refine hK41 v39 v40 ⟨fun c40 => ⟨vin rfl d0 (by omega), ?_⟩, fun c40 => ?_⟩
                          · rcases k2 with q | ⟨_, k3, k4⟩
                            · exact absurd q c40
                            have gi := gV_in k3
                            have av := aV_in (s := b1) f31 gi.1
                            intro z43 e43
                            have t43 : TM z43 := by rw [e43]; exact Ty_wR t29 trivial
                            have y31' : gF z43 31 = gF z1 31 := by rw [e43]; exact y31
                            refine v_X9_afterwards _ _ _ _ hb1 ⟨vin rfl d0 (by omega), ?_⟩
                            rw [y31']
                            intro z46 e46 x47 e47
                            have i47 : x47.toInt = v27.toInt + 1 := by rw [e47]; exact a_add rfl rfl (by omega) (by omega)
                            refine ihp _ x47 z46 (by rw [e46]; exact Ty_wR t43 trivial) ((s29.r (by decide) e43).r (by decide) e46) (by rw [e46, e43]; exact w34) (by rw [e46, e43]; exact w33) av.1 (by omega) (by omega) (by omega) (fun hlt => ?_) (by omega)
                            have j1 := i41 (i := x47) (l := aV (gF z1 31) b1 (v26 + v39)) (by omega) (by omega)
                            have j2 := i82 (i := v27) (l := aV (gF z1 31) b1 (v26 + v39)) (by omega) (by omega)
                            rw [toI_inj (x := (41 : Int32) * x47 + aV (gF z1 31) b1 (v26 + v39)) (y := (41 : Int32) * v27 + (41 : Int32) + aV (gF z1 31) b1 (v26 + v39)) (by omega)]
                            exact k4
                          · have i40 : v40.toInt = 0 := by rw [c40]; rfl
                            refine v_X9_goes _ _ _ _ _ _ _ t29 hb1 ?_
                            rw [y4, y26, y27, y32]
                            have hne : ∀ v : Int32, v.toInt = x0.toInt → v = x0 := fun v h => toI_inj h
                            intro K51 hK51
                            have h51 : ∀ s50 : Int32, (gV (gF z1 4) (gF z1 26) (gF z1 27) (gF z1 32) b1 v26 v39 (LD z1 (gF z1 26 b1.toNatClampNeg) (gI z1 2 + v27) (-1)) ≠ 0 → s50 = (41 : Int32) * v27 + (41 : Int32) + aV (gF z1 31) b1 (v26 + v39)) → K51 s50 := by
                              intro s50 e50
                              refine hK51 s50 ?_
                              intro K53 hK53
                              have n53 : v39 ≠ x0 → K53 0 := by
                                intro hnx
                                have : v39.toInt ≠ x0.toInt := fun q => hnx (hne v39 q)
                                refine hK53 0 ?_
                                intro K56 hK56
                                refine ⟨fun _ => hK56 _ _ (fun x57 e57 => ?_), fun q => absurd rfl q⟩
                                have i57 : x57.toInt = v39.toInt + 1 := by rw [e57]; exact a_add rfl rfl (by omega) (by omega)
                                exact iho x57 0 (by omega) (by omega) (Or.inl rfl) (by omega)
                              intro K59 hK59
                              refine ⟨fun cr => hK59 (n53 (fun q => ?_)), fun cr => ?_⟩
                              · rw [q] at cr
                                exact u3 cr
                              · have gne : gV (gF z1 4) (gF z1 26) (gF z1 27) (gF z1 32) b1 v26 v39 (LD z1 (gF z1 26 b1.toNatClampNeg) (gI z1 2 + v27) (-1)) ≠ 0 := cr
                                have gi := gV_in gne
                                have av := aV_in (s := b1) f31 gi.1
                                have j2 := i82 (i := v27) (l := aV (gF z1 31) b1 (v26 + v39)) (by omega) (by omega)
                                have j1 := i41 (i := v27) (l := v26) (by omega) (by omega)
                                have es := e50 cr
                                have hvs : vp_in s50 2009 := by rw [es]; exact vin j2 (by omega) (by omega)
                                refine ⟨hvs, fun cz => hK59 (n53 (fun q => ?_)), fun cz => ⟨hvs, vin j1 (by omega) (by omega), fun cl => hK59 (n53 (fun q => ?_)), fun cl => ?_⟩⟩
                                · rw [w34, es, q] at cz; exact u4 cz
                                · refine cl (lgc_of ?_)
                                  rw [w33, es, e37, q]
                                  exact u5
                                · refine hK53 1 ?_
                                  intro K56 hK56
                                  refine ⟨fun q => absurd q (by decide), fun _ => hK56 _ _ (fun x57 e57 => ?_)⟩
                                  have i57 : x57.toInt = v39.toInt + 0 := by rw [e57]; exact a_add rfl rfl (by omega) (by omega)
                                  have e57' : x57 = v39 := toI_inj (by omega)
                                  rw [e57']
                                  refine iho v39 1 k0 k1 (Or.inr ⟨rfl, gne, ?_⟩) (by rw [show (1 : Int32).toInt = 1 from rfl]; omega)
                                  rw [w34, es] at cz
                                  exact cz
                            refine ⟨fun cr => h51 0 (fun q => absurd cr q), fun cr => ?_⟩
                            refine v_X9_afterwards _ _ _ _ hb1 ?_
                            rw [y31]
                            exact h51 _ (fun _ => rfl)
                      exact L41 _ x38 0 (by omega) (by omega) (Or.inl rfl) (Nat.lt_succ_self _)
                refine L28 _ x25 0 z22 t22 s22 rfl rfl (by rw [e25]; omega) (by rw [e25]; omega) (by omega) (by omega) (fun _ => ?_) (Nat.lt_succ_self _)
                have j1 := i41 (i := 0) (l := gF z1 28 b1.toNatClampNeg) (by omega) f28
                rw [e25, toI_inj (x := (41 : Int32) * 0 + gF z1 28 b1.toNatClampNeg) (y := gF z1 28 b1.toNatClampNeg) (by omega)]
                exact cc
              · -- one hour of the table
                have c' : 0 ≤ v20.toInt := i_nlt rfl rfl c
                have iy : (gI z1 2 + v20).toInt = (gI z1 2).toInt + v20.toInt := a_add rfl rfl (by omega) (by omega)
                rw [q2, q26]
                refine v_X9_loadOf _ _ _ _ _ t22 f26 (by omega) ?_
                refine v_X9_priceOf _ _ _ _ t22 ⟨hv6, ?_⟩
                rw [LD_same s22 (by decide) (by decide) (by decide) (by decide) (by decide) (by decide) (by decide), PR_same s22 (by decide) (by decide) (by decide) (by decide) (by decide), q32]
                intro x71 e71 K73 hK73
                have L73 : ∀ (p : Nat) (v72 : Int32) (z74 : St), TM z74 → Same [1, 55] FL9 z1 z74 → (∀ k : Nat, 41 * v20.toInt + 41 ≤ k → gF z74 34 k = gF z22 34 k ∧ gG z74 33 k = gG z22 33 k) → 0 ≤ v72.toInt → v72.toInt ≤ 41 → (∀ l : Int32, 0 ≤ l.toInt → l.toInt < v72.toInt → l.toInt ≤ (gF z1 27 b1.toNatClampNeg).toInt → gF z74 34 ((41 : Int32) * v20 + l).toNatClampNeg ≠ 0 → ∃ x, WIT z1 b1 z74 v20 l x) → (41 - v72.toInt).toNat < p → K73 v72 z74 := by
                  intro p
                  induction p with
                  | zero => intro v72 z74 _ _ _ _ _ _ q; omega
                  | succ p ihp =>
                    intro v72 z74 t74 s74 hA b0 b01 hB pm
                    refine hK73 v72 z74 ⟨fun c => ?_, fun c => ?_⟩
                    · have cx := i_le rfl rfl c
                      intro x76 e76
                      have i76 : x76.toInt = v20.toInt - 1 := by rw [e76]; exact a_add rfl (show (-1 : Int32).toInt = -1 from rfl) (by omega) (by omega)
                      refine ihm x76 z74 t74 s74 (by omega) (by omega) (fun i l h1 h2 h3 h5 hc => ?_) (by omega)
                      by_cases e : i.toInt = v20.toInt
                      · have := toI_inj e
                        subst this
                        exact hB l h3 (by omega) h5 hc
                      · have j1 := i41 (i := i) (l := l) (by omega) (by omega)
                        have jc := clampN (x := (41 : Int32) * i + l) (by omega)
                        have hq := hA ((41 : Int32) * i + l).toNatClampNeg (by omega)
                        rw [hq.1] at hc
                        obtain ⟨x, hx⟩ := hw i l (by omega) h2 h3 h5 hc
                        exact ⟨x, WIT_mv t1 hx (by omega) (by omega) (fun k hk' => hA k (by omega)) hq.2⟩
                    · have cx := i_nle rfl rfl c
                      have j0 := i41 (i := v20) (l := v72) (by omega) (by omega)
                      have jc := clampN (x := (41 : Int32) * v20 + v72) (by omega)
                      have hvi : vp_in ((41 : Int32) * v20 + v72) 2009 := vin j0 (by omega) (by omega)
                      refine ⟨hvi, ?_⟩
                      intro z77 e77
                      have t77 : TM z77 := by rw [e77]; exact Ty_wR t74 trivial
                      have s77 : Same [1, 55] FL9 z1 z77 := s74.r (by decide) e77
                      have a77 : ∀ k : Nat, k ≠ ((41 : Int32) * v20 + v72).toNatClampNeg → gF z77 34 k = gF z74 34 k ∧ gG z77 33 k = gG z74 33 k := fun k hk' => by
                        rw [e77, gF_upd, if_neg hk']; exact ⟨rfl, rfl⟩
                      have o77 : gF z77 34 ((41 : Int32) * v20 + v72).toNatClampNeg = 0 := by rw [e77, gF_upd, if_pos rfl]; exact narB0
                      refine ⟨hv6, ?_⟩
                      intro K79 hK79
                      have L79 : ∀ (o : Nat) (v78 : Int32) (z80 : St), TM z80 → Same [1, 55] FL9 z1 z80 → (∀ k : Nat, 41 * v20.toInt + 41 ≤ k → gF z80 34 k = gF z22 34 k ∧ gG z80 33 k = gG z22 33 k) → (∀ l : Int32, 0 ≤ l.toInt → l.toInt < v72.toInt → l.toInt ≤ (gF z1 27 b1.toNatClampNeg).toInt → gF z80 34 ((41 : Int32) * v20 + l).toNatClampNeg ≠ 0 → ∃ x, WIT z1 b1 z80 v20 l x) → (gF z80 34 ((41 : Int32) * v20 + v72).toNatClampNeg ≠ 0 → ∃ x, WIT z1 b1 z80 v20 v72 x) → -(gF z1 30 b1.toNatClampNeg).toInt ≤ v78.toInt → v78.toInt ≤ 11 → (11 - v78.toInt).toNat < o → K79 v78 z80 := by
                        intro o
                        induction o with
                        | zero => intro v78 z80 _ _ _ _ _ _ _ q; omega
                        | succ o iho =>
                          intro v78 z80 t80 s80 kA kB kC d0 d1 om
                          have y29 : gF z80 29 = gF z1 29 := s80.2 29 (by decide)
                          have y31 : gF z80 31 = gF z1 31 := s80.2 31 (by decide)
                          have y4 : gF z80 4 = gF z1 4 := s80.2 4 (by decide)
                          have y26 : gF z80 26 = gF z1 26 := s80.2 26 (by decide)
                          have y27 : gF z80 27 = gF z1 27 := s80.2 27 (by decide)
                          have y32 : gF z80 32 = gF z1 32 := s80.2 32 (by decide)
                          refine hK79 v78 z80 ⟨hv6, fun c => ?_, fun c => ?_⟩
                          · intro x82 e82
                            have i82' : x82.toInt = v72.toInt + 1 := by rw [e82]; exact a_add rfl rfl (by omega) (by omega)
                            refine ihp x82 z80 t80 s80 kA (by omega) (by omega) (fun l h1 h2 h3 hc => ?_) (by omega)
                            by_cases e : l.toInt = v72.toInt
                            · have := toI_inj e
                              subst this
                              exact kC hc
                            · exact kB l h1 (by omega) h3 hc
                          · have cd := i_nlt rfl rfl c
                            rw [y29] at cd
                            refine v_X9_goes _ _ _ _ _ _ _ t80 hb1 ?_
                            rw [y4, y26, y27, y32]
                            intro K85 hK85
                            have hnext : ∀ z86 : St, TM z86 → Same [1, 55] FL9 z1 z86 → (∀ k : Nat, 41 * v20.toInt + 41 ≤ k → gF z86 34 k = gF z22 34 k ∧ gG z86 33 k = gG z22 33 k) → (∀ l : Int32, 0 ≤ l.toInt → l.toInt < v72.toInt → l.toInt ≤ (gF z1 27 b1.toNatClampNeg).toInt → gF z86 34 ((41 : Int32) * v20 + l).toNatClampNeg ≠ 0 → ∃ x, WIT z1 b1 z86 v20 l x) → (gF z86 34 ((41 : Int32) * v20 + v72).toNatClampNeg ≠ 0 → ∃ x, WIT z1 b1 z86 v20 v72 x) → K85 z86 := by
                              intro z86 t86 s86 mA mB mC
                              refine hK85 z86 (fun x87 e87 => ?_)
                              have i87 : x87.toInt = v78.toInt + 1 := by rw [e87]; exact a_add rfl rfl (by omega) (by omega)
                              exact iho x87 z86 t86 s86 mA mB mC (by omega) (by omega) (by omega)
                            refine ⟨fun cr => ?_, fun _ => hnext z80 t80 s80 kA kB kC⟩
                            have gi := gV_in cr
                            have av := aV_in (s := b1) f31 gi.1
                            refine v_X9_afterwards _ _ _ _ hb1 ?_
                            rw [y31]
                            intro x91 e91
                            have j2 : x91.toInt = 41 * v20.toInt + 41 + (aV (gF z1 31) b1 (v72 + v78)).toInt := by rw [e91]; exact i82 (i := v20) (l := aV (gF z1 31) b1 (v72 + v78)) (by omega) (by omega)
                            have j2c := clampN (x := x91) (by omega)
                            have hv91 : vp_in x91 2009 := vin j2 (by omega) (by omega)
                            refine ⟨hv91, fun _ => hnext z80 t80 s80 kA kB kC, fun c91 => ⟨hvi, ?_⟩⟩
                            intro K93 hK93
                            have h93 : K93 := by
                              refine hK93 ⟨hvi, ?_⟩
                              intro z94 e94
                              refine ⟨hv91, hvi, ?_⟩
                              intro z95 e95
                              have t94 : TM z94 := by rw [e94]; exact Ty_wR t80 trivial
                              have g34 : ∀ k, gF z95 34 k = if k = ((41 : Int32) * v20 + v72).toNatClampNeg then vp_nar .boolean (1 : Int32) else gF z80 34 k := fun k => by
                                rw [e95]; show gF z94 34 k = _; rw [e94, gF_upd]
                              have g94 : gG z94 33 = gG z80 33 := by rw [e94]; rfl
                              have g33 : ∀ k, gG z95 33 k = if k = ((41 : Int32) * v20 + v72).toNatClampNeg then gG z80 33 x91.toNatClampNeg + Int32.toInt64 v78 * x71 else gG z80 33 k := fun k => by
                                rw [e95, gG_upd, g94]
                              have a95 : ∀ k : Nat, k ≠ ((41 : Int32) * v20 + v72).toNatClampNeg → gF z95 34 k = gF z80 34 k ∧ gG z95 33 k = gG z80 33 k := fun k hk' => by
                                rw [g34, g33, if_neg hk', if_neg hk']; exact ⟨rfl, rfl⟩
                              refine hnext z95 (by rw [e95]; exact Ty_wL t94) ((s80.r (by decide) e94).l e95) (fun k hk' => ?_) (fun l h1 h2 h3 hc => ?_) (fun _ => ⟨v78, by omega, by omega, cr, ?_, ?_⟩)
                              · have q := a95 k (by omega)
                                have q' := kA k hk'
                                exact ⟨q.1.trans q'.1, q.2.trans q'.2⟩
                              · have j1 := i41 (i := v20) (l := l) (by omega) (by omega)
                                have j1c := clampN (x := (41 : Int32) * v20 + l) (by omega)
                                have q := a95 ((41 : Int32) * v20 + l).toNatClampNeg (by omega)
                                rw [q.1] at hc
                                obtain ⟨x, hx⟩ := kB l h1 h2 h3 hc
                                exact ⟨x, WIT_mv t1 hx (by omega) (by omega) (fun k hk' => a95 k (by omega)) q.2⟩
                              · rw [← e91, (a95 x91.toNatClampNeg (by omega)).1]; exact c91
                              · rw [← e91, (a95 x91.toNatClampNeg (by omega)).2, ← e71, g33, if_pos rfl]
                            exact ⟨fun _ => h93, fun _ => ⟨hv91, hvi, fun _ => hnext z80 t80 s80 kA kB kC, fun _ => h93⟩⟩
                      intro x98 e98
                      have y30 : gF z77 30 = gF z1 30 := s77.2 30 (by decide)
                      have i98 : x98.toInt = -(gF z1 30 b1.toNatClampNeg).toInt := by rw [e98, y30]; exact a_neg rfl (by omega) (by omega)
                      refine L79 _ x98 z77 t77 s77 (fun k hk' => ?_) (fun l h1 h2 h3 hc => ?_) (fun q => absurd o77 q) (by omega) (by omega) (Nat.lt_succ_self _)
                      · have q := a77 k (by omega)
                        have q' := hA k hk'
                        exact ⟨q.1.trans q'.1, q.2.trans q'.2⟩
                      · have j1 := i41 (i := v20) (l := l) (by omega) (by omega)
                        have j1c := clampN (x := (41 : Int32) * v20 + l) (by omega)
                        have q := a77 ((41 : Int32) * v20 + l).toNatClampNeg (by omega)
                        rw [q.1] at hc
                        obtain ⟨x, hx⟩ := hB l h1 h2 h3 hc
                        exact ⟨x, WIT_mv t1 hx (by omega) (by omega) (fun k hk' => a77 k (by omega)) q.2⟩
                exact L73 _ 0 z22 t22 s22 (fun k _ => ⟨rfl, rfl⟩) (by omega) (by omega) (fun l h1 h2 => by omega) (Nat.lt_succ_self _)
          intro x99 e99
          have i99 : x99.toInt = b2.toInt - 1 := by rw [e99]; exact a_sub rfl rfl (by omega) (by omega)
          exact L21 _ x99 z18 t18 s18 (by omega) (by omega) (fun i l h1 h2 => by omega) (Nat.lt_succ_self _)
        · have cx := i_nle rfl rfl c
          have j0 := i41 (i := b2) (l := v16) (by omega) (by omega)
          refine ⟨vin j0 (by omega) (by omega), ?_⟩
          intro z100 e100
          have t100 : TM z100 := by rw [e100]; exact Ty_wL t18
          intro K103 hK103
          have h103 : ∀ s101 : Int32, K103 s101 ((41 : Int32) * b2 + v16) := by
            intro s101
            refine hK103 s101 _ ⟨vin j0 (by omega) (by omega), ?_⟩
            intro z104 e104 x105 e105
            have i105 : x105.toInt = v16.toInt + 1 := by rw [e105]; exact a_add rfl rfl (by omega) (by omega)
            exact ih x105 z104 (by rw [e104]; exact Ty_wR t100 trivial) ((s18.l e100).r (by decide) e104) (by omega) (by omega) (by omega)
          exact ⟨fun _ => h103 _, fun _ => h103 _⟩
    exact L17 42 0 z1 t1 Same.rf (by omega) (by omega) (by omega)
  refine ⟨fun _ => h11, fun c10 => ⟨?_, fun _ => h11, fun _ => h4⟩⟩
  have f43 : 0 ≤ (gI z1 43).toInt ∧ (gI z1 43).toInt ≤ 6 := t1.1 43
  rcases hr10 with q | q
  · exact vin rfl q.2.1 (by omega)
  · exact absurd q.1 c10
