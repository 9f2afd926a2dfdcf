-- THE HOURS OFFERED
theorem CP_st {z z2 zm : St} {st bg : Nat → Int32} {I F : List Nat} (h : CP z zm st bg) (s : Same I F z z2) (hI : ∀ x ∈ [1308, 705, 706, 2104, 3402], x ∉ I) (hF : ∀ x ∈ [5, 8, 9, 10, 11, 12, 14, 15, 16, 17, 18, 19, 20, 35, 36], x ∉ F) : CP z2 zm st bg := by
  refine ⟨SE_mv h.1 s (hI _ (by decide)) (hI _ (by decide)) (hI _ (by decide)) (hI _ (by decide)) (hF _ (by decide)) (hF _ (by decide)) (hF _ (by decide)) (hF _ (by decide)) (hF _ (by decide)) (hF _ (by decide)) (hF _ (by decide)) (hF _ (by decide)), RE_mv h.2.1 s (hI _ (by decide)) (hF _ (by decide)) (hF _ (by decide)) (hF _ (by decide)), TD_mv h.2.2.1 s (hF _ (by decide)), ?_, fun o ho => ?_, fun o ho hs => ?_⟩
  · have p := h.2.2.2.1
    unfold PX PE at p ⊢
    rw [s.1 1308 (hI _ (by decide)), s.2 10 (hF _ (by decide)), s.2 12 (hF _ (by decide)), s.2 14 (hF _ (by decide)), s.2 17 (hF _ (by decide)), s.2 18 (hF _ (by decide)), s.2 19 (hF _ (by decide)), s.2 20 (hF _ (by decide))]
    exact p
  · rw [s.2 19 (hF _ (by decide))]; exact h.2.2.2.2.1 o ho
  · rw [s.2 20 (hF _ (by decide))]; exact h.2.2.2.2.2 o ho hs
theorem SDi_up {z zm : St} {st bg : Nat → Int32} {oj : Nat → Nat} {i : Nat} : ∀ (d L : Nat), L + d = 24 → SDi z zm st bg oj i L → (∀ p, L ≤ p → p < 24 → ¬ OFF zm st bg oj i p) → SDi z zm st bg oj i 24 := by
  intro d
  induction d with
  | zero =>
    intro L e h _
    have e2 : L = 24 := by omega
    subst e2
    exact h
  | succ d ih => intro L e h hn; exact ih (L + 1) (by omega) (SDi_skip h (hn L (Nat.le_refl _) (by omega))) (fun p h1 h2 => hn p (by omega) h2)
set_option maxHeartbeats 1000000 in
theorem v_X2_offerHours (b1 : Int32) (z zm : St) (P : St → Prop) (st bg : Nat → Int32) (oj : Nat → Nat) (i : Nat) (ht : TX z) (tm : TM zm) (rm : RM zm) (bd : BD zm) (cp : CP z zm st bg) (hi : b1 = nI i) (h5 : i < 5) (hj : ((oj i : Nat) : Int) < (gI zm 12).toInt) (hs : st (oj i) = 0) (h23 : gF z 23 i = nI (oj i)) (sd : SDi z zm st bg oj i 0) (hk : ∀ z2 : St, TX z2 → Same [] [25, 26, 27, 30] z z2 → SDi z2 zm st bg oj i 24 → (∀ k, k ≠ i → gF z2 25 k = gF z 25 k ∧ gF z2 30 k = gF z 30 k) → (∀ x : Nat, (x < 24 * i ∨ 24 * i + 24 ≤ x) → gF z2 26 x = gF z 26 x ∧ gF z2 27 x = gF z 27 x ∧ gG z2 28 x = gG z 28 x) → P z2) : wp_X2_offerHours b1 z P := by
  have f12 : 0 ≤ (gI zm 12).toInt ∧ (gI zm 12).toInt ≤ 16 := tm.1 12
  have ib : b1.toInt = (i : Int) := by rw [hi, nI_toInt (by omega)]
  have cb : b1.toNatClampNeg = i := by rw [hi, nI_clamp (by omega)]
  have ij : (nI (oj i)).toInt = ((oj i : Nat) : Int) := nI_toInt (by omega)
  have cj : (nI (oj i)).toNatClampNeg = oj i := nI_clamp (by omega)
  have f7 : 0 ≤ (gF zm 7 (oj i)).toInt ∧ (gF zm 7 (oj i)).toInt ≤ 167 := tm.2 7 _
  have f8 : 0 ≤ (gF zm 8 (oj i)).toInt ∧ (gF zm 8 (oj i)).toInt ≤ 167 := tm.2 8 _
  have c7 := clampN f7.1
  have eF : Fi zm oj i = (gF zm 7 (oj i)).toNatClampNeg := rfl
  have rmi := rm (oj i)
  obtain ⟨_, q15, q16, _, _⟩ := cp.1.2.1
  have hv16 : vp_in (nI (oj i)) 16 := vin ij (by omega) (by omega)
  have e1 : (1 : Int32).toInt = 1 := rfl
  unfold wp_X2_offerHours
  rw [cb, h23]
  refine ⟨vin ib (by omega) (by omega), ?_⟩
  intro x1 ex1
  subst ex1
  rw [cj]
  refine ⟨hv16, ?_⟩
  intro K3 hK3
  have LL : ∀ (m L : Nat) (v2 : Int32) (z4 : St), TX z4 → Same [] [25, 26, 27, 30] z z4 → SDi z4 zm st bg oj i L → (∀ k, k ≠ i → gF z4 25 k = gF z 25 k ∧ gF z4 30 k = gF z 30 k) → (∀ x : Nat, (x < 24 * i ∨ 24 * i + 24 ≤ x) → gF z4 26 x = gF z 26 x ∧ gF z4 27 x = gF z 27 x ∧ gG z4 28 x = gG z 28 x) → v2 = nI (Fi zm oj i + L) → L ≤ 24 → 24 - L < m → K3 v2 z4 := by
    intro m
    induction m with
    | zero => intro L v2 z4 _ _ _ _ _ _ _ q; omega
    | succ m ih =>
      intro L v2 z4 t4 s4 sd4 o4 x4 ev hL gm
      have iv : v2.toInt = ((Fi zm oj i + L : Nat) : Int) := by rw [ev, nI_toInt (by omega)]
      have cv : v2.toNatClampNeg = Fi zm oj i + L := by rw [ev, nI_clamp (by omega)]
      have cp4 : CP z4 zm st bg := CP_st cp s4 (by decide) (by decide)
      have r16 : gF z4 16 = gF zm 8 := (s4.2 16 (by decide)).trans q16
      have r15 : gF z4 15 = gF zm 7 := (s4.2 15 (by decide)).trans q15
      have nx : ∀ x10 : Int32, x10 = v2 + 1 → x10 = nI (Fi zm oj i + (L + 1)) := by
        intro x10 e10
        refine toI_inj ?_
        rw [e10, a_add iv e1 (by omega) (by omega), nI_toInt (by omega)]
        omega
      refine hK3 v2 z4 ⟨hv16, fun c => ?_, fun c => ?_⟩
      · rw [r16] at c
        have c' := i_lt rfl rfl c
        refine hk z4 t4 s4 (SDi_up (24 - L) L (by omega) sd4 (fun p h1 h2 ho => ?_)) o4 x4
        have := ho.2.2.1
        omega
      · rw [r16] at c
        have c' := i_nlt rfl rfl c
        have hL24 : L < 24 := by omega
        refine v_X2_mayBegin _ _ _ _ t4 (by omega) (fun hm => ?_) (fun hm => ?_)
        · rw [cj, iv] at hm
          have ho : OFF zm st bg oj i L := (CP_mb tm cp4 hj hs).mp hm
          intro K8 hK8
          refine ⟨fun q => absurd q (by decide), fun _ => ⟨hv16, ?_⟩⟩
          refine v_X1_costFrom_5 _ _ _ _ t4 (by omega) (by omega) ?_
          have ct := (ct_eq (t := v2.toNatClampNeg) tm bd cp4 hj).1
          rw [r15, cj, ct]
          have eL : v2 - gF zm 7 (oj i) = nI L := by
            refine toI_inj ?_
            rw [a_sub iv rfl (by omega) (by omega), nI_toInt (by omega)]
            omega
          refine v_X6_offer b1 _ _ z4 zm _ st bg oj i L t4 hi h5 eL hL24 (by rw [cv]) sd4 ho (fun z5 t5 s5 sd5 o5 x5 => ?_)
          refine hK8 z5 (fun x10 e10 => ?_)
          refine ih (L + 1) x10 z5 t5 (s4.tr s5 (by decide) (by decide)) sd5 (fun k hk' => ?_) (fun x hx => ?_) (nx x10 e10) (by omega) (by omega)
          · exact ⟨(o5 k hk').1.trans (o4 k hk').1, (o5 k hk').2.trans (o4 k hk').2⟩
          · exact ⟨(x5 x hx).1.trans (x4 x hx).1, (x5 x hx).2.1.trans (x4 x hx).2.1, (x5 x hx).2.2.trans (x4 x hx).2.2⟩
        · rw [cj, iv] at hm
          have hn : ¬ OFF zm st bg oj i L := fun ho => hm ((CP_mb tm cp4 hj hs).mpr ho)
          intro K8 hK8
          refine ⟨fun _ => hK8 z4 (fun x10 e10 => ?_), fun q => absurd rfl q⟩
          exact ih (L + 1) x10 z4 t4 s4 (SDi_skip sd4 hn) o4 x4 (nx x10 e10) (by omega) (by omega)
  intro x16 e16
  rw [q15] at e16
  exact LL 25 0 x16 z ht Same.rf sd (fun _ _ => ⟨rfl, rfl⟩) (fun _ _ => ⟨rfl, rfl, rfl⟩) (by rw [e16]; exact nI_cl f7.1) (by omega) (by omega)
