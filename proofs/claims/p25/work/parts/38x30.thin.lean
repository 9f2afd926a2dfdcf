-- WHAT ANY TWO JOBS LEAVE EACH OTHER
theorem bt_ex {x : Int32} (h : ¬ x = 0) : ∃ p, p < 32 ∧ bt x (nI p) := by
  refine Classical.byContradiction (fun hn => h (gb_ext (fun i hi => ?_)))
  rw [gb_0]
  cases hc : gb x i
  · rfl
  · exact absurd ⟨i, hi, (bt_gb hi).mpr hc⟩ hn
/-- choices as places -/
def cP (zm : St) (oj : Nat → Nat) (pc : Nat → Nat) (k : Nat) : Int32 := nI (Fi zm oj k + pc k)
/-- what stays the same all through the search -/
def EN (zm : St) (st bg : Nat → Int32) (oj : Nat → Nat) (n : Nat) : Prop := TM zm ∧ BB zm ∧ (∀ j : Nat, (j : Int) < (gI zm 12).toInt → (gF zm 6 j).toInt < (gI zm 8).toInt) ∧ PLB zm st bg ∧ Rise oj n ∧ n ≤ 5 ∧ (∀ k, k < n → ((oj k : Nat) : Int) < (gI zm 12).toInt ∧ st (oj k) = 0) ∧ (∀ j t : Nat, (j : Int) < (gI zm 12).toInt → -200000000 ≤ (ctM zm j t).toInt ∧ (ctM zm j t).toInt ≤ 200000000) ∧ RM zm
def FeB (zm : St) (st bg : Nat → Int32) (oj : Nat → Nat) (n : Nat) (pc : Nat → Nat) : Prop := (∀ k, k < n → pc k < 24) ∧ FeP zm st bg oj n (cP zm oj pc)
theorem Fi_le {zm : St} {oj : Nat → Nat} {k : Nat} (tm : TM zm) : Fi zm oj k ≤ 167 := by
  have f7 : 0 ≤ (gF zm 7 (oj k)).toInt ∧ (gF zm 7 (oj k)).toInt ≤ 167 := tm.2 7 _
  have c7 := clampN f7.1
  unfold Fi
  omega
theorem cP_i {zm : St} {oj : Nat → Nat} {pc : Nat → Nat} {k : Nat} (tm : TM zm) (h : pc k < 24) : (cP zm oj pc k).toInt = pl zm oj k (pc k) := by
  have := Fi_le (oj := oj) (k := k) tm
  unfold cP pl
  rw [nI_toInt (by omega)]
theorem cP_c {zm : St} {oj : Nat → Nat} {pc : Nat → Nat} {k : Nat} (tm : TM zm) (h : pc k < 24) : (cP zm oj pc k).toNatClampNeg = Fi zm oj k + pc k := by
  have := Fi_le (oj := oj) (k := k) tm
  unfold cP
  rw [nI_clamp (by omega)]
/-- every choice that goes is one of places -/
theorem FeP_B {zm : St} {st bg : Nat → Int32} {oj : Nat → Nat} {n : Nat} {c : Nat → Int32} (tm : TM zm) (rm : RM zm) (h : FeP zm st bg oj n c) : ∃ pc, FeB zm st bg oj n pc ∧ ∀ k, k < n → c k = cP zm oj pc k := by
  have key : ∀ k, k < n → (((c k).toInt - (gF zm 7 (oj k)).toInt).toNat < 24) ∧ c k = cP zm oj (fun k => ((c k).toInt - (gF zm 7 (oj k)).toInt).toNat) k := by
    intro k hk
    have f7 : 0 ≤ (gF zm 7 (oj k)).toInt ∧ (gF zm 7 (oj k)).toInt ≤ 167 := tm.2 7 _
    have c7 := clampN f7.1
    have a := (h k hk).2.1
    have b := (h k hk).2.2.1
    have r := rm (oj k)
    have eF : Fi zm oj k = (gF zm 7 (oj k)).toNatClampNeg := rfl
    refine ⟨by omega, toI_inj ?_⟩
    show (c k).toInt = (nI (Fi zm oj k + ((c k).toInt - (gF zm 7 (oj k)).toInt).toNat)).toInt
    rw [nI_toInt (by omega)]
    omega
  refine ⟨fun k => ((c k).toInt - (gF zm 7 (oj k)).toInt).toNat, ⟨fun k hk => (key k hk).1, FeP_co (fun l hl => ((key l hl).2).symm) h⟩, fun k hk => (key k hk).2⟩
theorem FeP_le {zm : St} {st bg : Nat → Int32} {oj : Nat → Nat} {n m : Nat} {c : Nat → Int32} (h : FeP zm st bg oj n c) (hm : m ≤ n) : FeP zm st bg oj m c := fun k hk => h k (by omega)
/-- of a choice that goes: each place is offered, and any two go together -/
theorem FeB_mp {zm : St} {st bg : Nat → Int32} {oj : Nat → Nat} {n : Nat} {pc : Nat → Nat} (en : EN zm st bg oj n) (h : FeB zm st bg oj n pc) : (∀ j, j < n → OFF zm st bg oj j (pc j)) ∧ ∀ i j, i < j → j < n → MP zm st bg oj i j (pc i) (pc j) := by
  obtain ⟨tm, bb, hh, pb, hr, h5, ho, bd, rm⟩ := en
  have key : ∀ j, j < n → OFF zm st bg oj j (pc j) ∧ ∀ l, l < j → CMP zm st bg (oj l) (oj j) (pl zm oj l (pc l)) (pl zm oj j (pc j)) := by
    intro j hj
    have m := h.2 j hj
    rw [cP_i tm (h.1 j hj)] at m
    have f := (feas tm bb hh pb hr hj ho (FeP_le h.2 (by omega))).mp m
    refine ⟨f.1, fun l hl => ?_⟩
    have := f.2.1 l hl
    rw [cP_i tm (h.1 l (by omega))] at this
    exact this
  exact ⟨fun j hj => (key j hj).1, fun i j hij hj => ⟨(key i (by omega)).1, (key j hj).1, (key j hj).2 i hij⟩⟩
theorem v_X6_hasPartners (b1 b2 : Int32) (z : St) (P : Int32 → Prop) (i p n : Nat) (hi : b1 = nI i) (h5 : i < 5) (hp : b2 = nI p) (hp24 : p < 24) (hn : (gI z 2213).toInt = (n : Int)) (hn5 : n ≤ 5) (hk1 : P 1) (hk0 : (∃ j, j < n ∧ j ≠ i ∧ (gF z 29 ((24 * i + p) * 5 + j) &&& gF z 30 j) = 0) → P 0) : wp_X6_hasPartners b1 b2 z P := by
  have i1 : b1.toInt = (i : Int) := by rw [hi, nI_toInt (by omega)]
  have i2 : b2.toInt = (p : Int) := by rw [hp, nI_toInt (by omega)]
  have m1 : (b1 * (24 : Int32)).toInt = (i : Int) * 24 := a_mul i1 (show (24 : Int32).toInt = 24 from rfl) (by omega) (by omega)
  have m2 : ((b1 * (24 : Int32) + b2) * (5 : Int32)).toInt = ((i : Int) * 24 + (p : Int)) * 5 := a_mul (a_add m1 i2 (by omega) (by omega)) (show (5 : Int32).toInt = 5 from rfl) (by omega) (by omega)
  unfold wp_X6_hasPartners
  intro K2 hK2
  have LL : ∀ (m : Nat) (v1 : Int32), 0 ≤ v1.toInt → v1.toInt ≤ 5 → (5 - v1.toInt).toNat < m → K2 v1 := by
    intro m
    induction m with
    | zero => intro v1 _ _ q; omega
    | succ m ih =>
      intro v1 g0 g1 gm
      have cv := clampN g0
      refine hK2 v1 ⟨fun _ => hk1, fun c => ?_⟩
      have c' := i_nle hn rfl c
      intro K4 hK4
      have next : K4 := hK4 (fun x5 e5 => by
        have i5 : x5.toInt = v1.toInt + 1 := by rw [e5]; exact a_add rfl rfl (by omega) (by omega)
        exact ih x5 (by omega) (by omega) (by omega))
      refine ⟨fun _ => next, fun cn => ?_⟩
      have ix : ((b1 * (24 : Int32) + b2) * (5 : Int32) + v1).toInt = ((i : Int) * 24 + (p : Int)) * 5 + v1.toInt := a_add m2 rfl (by omega) (by omega)
      have cx := clampN (x := (b1 * (24 : Int32) + b2) * (5 : Int32) + v1) (by omega)
      have ex : ((b1 * (24 : Int32) + b2) * (5 : Int32) + v1).toNatClampNeg = (24 * i + p) * 5 + v1.toNatClampNeg := by omega
      refine ⟨vin ix (by omega) (by omega), vin rfl g0 (by omega), ?_⟩
      rw [ex]
      refine ⟨fun _ => next, fun ce => hk0 ⟨v1.toNatClampNeg, by omega, fun q => cn ?_, ce⟩⟩
      rw [hi, ← q]
      exact nI_cl g0
  exact LL 6 0 (by decide) (by decide) (by decide)
/-- the bits left of each job: all are offered, and no choice that goes has lost one -/
def GD (z zm : St) (st bg : Nat → Int32) (oj : Nat → Nat) (n : Nat) : Prop := (∀ j, j < n → ∀ q, q < 32 → bt (gF z 30 j) (nI q) → q < 24 ∧ OFF zm st bg oj j q) ∧ ∀ pc, FeB zm st bg oj n pc → ∀ j, j < n → bt (gF z 30 j) (nI (pc j))
/-- the search's rows: the jobs, their offers, and all pairs -/
def WS (z zm : St) (st bg : Nat → Int32) (oj : Nat → Nat) (n : Nat) : Prop := TX z ∧ (gI z 2213).toInt = (n : Int) ∧ SE z zm ∧ (∀ i, i < n → gF z 23 i = nI (oj i) ∧ SDr z zm st bg oj i) ∧ ∀ i j, i < j → j < n → FT z i j (MP zm st bg oj i j)
theorem WS_mv {z z2 zm : St} {st bg : Nat → Int32} {oj : Nat → Nat} {n : Nat} {I F : List Nat} (h : WS z zm st bg oj n) (t : TX z2) (s : Same I F z z2) (h28 : gG z2 28 = gG z 28) (hI : ∀ x ∈ [1308, 705, 706, 2104, 2213], x ∉ I) (hF : ∀ x ∈ [8, 9, 11, 14, 15, 16, 17, 18, 23, 25, 26, 27, 29], x ∉ F) : WS z2 zm st bg oj n := by
  obtain ⟨_, a1, a2, a3, a4⟩ := h
  refine ⟨t, by rw [s.1 2213 (hI _ (by decide))]; exact a1, SE_mv a2 s (hI _ (by decide)) (hI _ (by decide)) (hI _ (by decide)) (hI _ (by decide)) (hF _ (by decide)) (hF _ (by decide)) (hF _ (by decide)) (hF _ (by decide)) (hF _ (by decide)) (hF _ (by decide)) (hF _ (by decide)) (hF _ (by decide)), fun i hi => ⟨by rw [s.2 23 (hF _ (by decide))]; exact (a3 i hi).1, SDr_mv (a3 i hi).2 s (hF _ (by decide)) (hF _ (by decide)) (hF _ (by decide)) h28⟩, fun i j hij hj => ?_⟩
  unfold FT
  rw [s.2 29 (hF _ (by decide))]
  exact a4 i j hij hj
/-- of a choice that goes, any two places stand in each other's bits -/
theorem FT_bt {z zm : St} {st bg : Nat → Int32} {oj : Nat → Nat} {n i j : Nat} {pc : Nat → Nat} (en : EN zm st bg oj n) (ft : ∀ i j, i < j → j < n → FT z i j (MP zm st bg oj i j)) (h : FeB zm st bg oj n pc) (hi : i < n) (hj : j < n) (hij : i ≠ j) : bt (gF z 29 ((24 * i + pc i) * 5 + j)) (nI (pc j)) := by
  have mp := (FeB_mp en h).2
  by_cases c : i < j
  · exact ((ft i j c hj) (pc i) (pc j) (h.1 i hi) (h.1 j hj)).1.mpr (mp i j c hj)
  · exact ((ft j i (by omega) hi) (pc j) (pc i) (h.1 j hj) (h.1 i hi)).2.mpr (mp j i (by omega) hi)
set_option maxHeartbeats 1000000 in
theorem v_X6_thinOut (z zm : St) (P : Int32 → St → Prop) (st bg : Nat → Int32) (oj : Nat → Nat) (n : Nat) (en : EN zm st bg oj n) (ws : WS z zm st bg oj n) (gd : GD z zm st bg oj n) (hk : ∀ (r : Int32) (z2 : St), TX z2 → Same [] [30] z z2 → z2.2.2 = z.2.2 → GD z2 zm st bg oj n → P r z2) : wp_X6_thinOut z P := by
  have h5 : n ≤ 5 := en.2.2.2.2.2.1
  obtain ⟨ht, hn, _, hsd, hft⟩ := ws
  unfold wp_X6_thinOut
  intro K3 hK3
  have LL : ∀ (m : Nat) (v1 v2 : Int32) (z4 : St), TX z4 → Same [] [30] z z4 → z4.2.2 = z.2.2 → GD z4 zm st bg oj n → (v1 = 0 ∨ v1 = 1) → 0 ≤ v2.toInt → v2.toInt ≤ (n : Int) → (5 - v2.toInt).toNat < m → K3 v1 v2 z4 := by
    intro m
    induction m with
    | zero => intro v1 v2 z4 _ _ _ _ _ _ _ q; omega
    | succ m ih =>
      intro v1 v2 z4 t4 s4 l4 g4 hv1 g0 g1 gm
      have cv2 := clampN g0
      have r2213 : gI z4 2213 = gI z 2213 := s4.1 2213 (by decide)
      refine hK3 v1 v2 z4 ⟨fun _ => ⟨hv1, hk v1 z4 t4 s4 l4 g4⟩, fun c => ?_⟩
      rw [r2213] at c
      have c' := i_nle hn rfl c
      have hin : v2.toNatClampNeg < n := by omega
      obtain ⟨a0, a1, _⟩ := (hsd v2.toNatClampNeg hin).2
      have f25 : 0 ≤ (gF z 25 v2.toNatClampNeg).toInt ∧ (gF z 25 v2.toNatClampNeg).toInt ≤ 24 := ht.2 25 _
      intro K8 hK8
      have L8 : ∀ (k : Nat) (v6 v7 : Int32) (z9 : St), TX z9 → Same [] [30] z z9 → z9.2.2 = z.2.2 → GD z9 zm st bg oj n → (v6 = 0 ∨ v6 = 1) → 0 ≤ v7.toInt → v7.toInt ≤ (gF z 25 v2.toNatClampNeg).toInt → (24 - v7.toInt).toNat < k → K8 v6 v7 z9 := by
        intro k
        induction k with
        | zero => intro v6 v7 z9 _ _ _ _ _ _ _ q; omega
        | succ k ihk =>
          intro v6 v7 z9 t9 s9 l9 g9 hv6 k0 k1 km
          have cv7 := clampN k0
          have r25 : gF z9 25 = gF z 25 := s9.2 25 (by decide)
          have r26 : gF z9 26 = gF z 26 := s9.2 26 (by decide)
          have r29 : gF z9 29 = gF z 29 := s9.2 29 (by decide)
          have rs : gI z9 2213 = gI z 2213 := s9.1 2213 (by decide)
          refine hK8 v6 v7 z9 ⟨vin rfl g0 (by omega), fun _ x11 e11 => ?_, fun cc => ?_⟩
          · have i11 : x11.toInt = v2.toInt + 1 := by rw [e11]; exact a_add rfl rfl (by omega) (by omega)
            exact ih v6 x11 z9 t9 s9 l9 g9 hv6 (by omega) (by omega) (by omega)
          · rw [r25] at cc
            have cc' := i_nle rfl rfl cc
            obtain ⟨p, hp, hof, hr⟩ := a1 v7.toNatClampNeg (by omega)
            have m24 : (v2 * (24 : Int32)).toInt = v2.toInt * 24 := a_mul rfl (show (24 : Int32).toInt = 24 from rfl) (by omega) (by omega)
            have ix : (v2 * (24 : Int32) + v7).toInt = v2.toInt * 24 + v7.toInt := a_add m24 rfl (by omega) (by omega)
            have cx := clampN (x := v2 * (24 : Int32) + v7) (by omega)
            have ex : (v2 * (24 : Int32) + v7).toNatClampNeg = 24 * v2.toNatClampNeg + v7.toNatClampNeg := by omega
            refine ⟨vin ix (by omega) (by omega), ?_⟩
            rw [ex, r26, hr]
            intro x12 e12
            have hv30 : vp_in v2 30 := vin rfl g0 (by omega)
            refine ⟨hv30, ?_⟩
            intro K14 hK14
            have next : ∀ (v13 : Int32) (z15 : St), TX z15 → Same [] [30] z z15 → z15.2.2 = z.2.2 → GD z15 zm st bg oj n → (v13 = 0 ∨ v13 = 1) → K14 v13 z15 := by
              intro v13 z15 t15 s15 l15 g15 h13
              refine hK14 v13 z15 (fun x16 e16 => ?_)
              have i16 : x16.toInt = v7.toInt + 1 := by rw [e16]; exact a_add rfl rfl (by omega) (by omega)
              exact ihk v13 x16 z15 t15 s15 l15 g15 h13 (by omega) (by omega) (by omega)
            refine ⟨fun _ => next v6 z9 t9 s9 l9 g9 hv6, fun _ => ?_⟩
            refine v_X6_hasPartners v2 x12 z9 _ v2.toNatClampNeg p n (nI_cl g0) (by omega) e12 hp (by rw [rs]; exact hn) h5 ⟨fun _ => next v6 z9 t9 s9 l9 g9 hv6, fun q => absurd q (by decide)⟩ (fun hno => ⟨fun q => absurd rfl q, fun _ => ⟨hv30, hv30, ?_⟩⟩)
            intro z21 e21
            obtain ⟨j, hj, hji, hz⟩ := hno
            rw [r29] at hz
            have r30 : ∀ x, gF z21 30 x = if x = v2.toNatClampNeg then gF z9 30 v2.toNatClampNeg &&& (((1 : Int32) <<< (x12 &&& 31)) ^^^ (-1 : Int32)) else gF z9 30 x := fun x => by rw [e21, gF_upd]
            refine next 1 z21 (by rw [e21]; exact Ty_wR t9 trivial) (s9.r (by decide) e21) (by rw [e21]; exact l9) ⟨fun i' hi' q hq hb => ?_, fun pc hpc i' hi' => ?_⟩ (Or.inr rfl)
            · rw [r30] at hb
              by_cases e : i' = v2.toNatClampNeg
              · rw [if_pos e, e12, bt_clr (by omega) hq] at hb
                exact g9.1 i' hi' q hq (by rw [e]; exact hb.1)
              · rw [if_neg e] at hb
                exact g9.1 i' hi' q hq hb
            · have old := g9.2 pc hpc i' hi'
              have h24 := hpc.1 i' hi'
              rw [r30]
              by_cases e : i' = v2.toNatClampNeg
              · rw [if_pos e, e12, bt_clr (by omega) (by omega), ← e]
                refine ⟨old, fun q => ?_⟩
                have b1 := FT_bt en hft hpc hi' hj (fun q' => hji (by rw [← q']; exact e))
                rw [q, e] at b1
                have b2 := g9.2 pc hpc j hj
                have hj24 := hpc.1 j hj
                have b3 := (bt_and (by omega)).mpr ⟨b1, b2⟩
                rw [hz] at b3
                exact bt_no b3
              · rw [if_neg e]; exact old
      exact L8 25 v1 0 z4 t4 s4 l4 g4 hv1 (by decide) f25.1 (by decide)
  exact LL 6 0 0 z ht Same.rf rfl gd (Or.inl rfl) (by decide) (by have : (0 : Int32).toInt = 0 := rfl; omega) (by decide)
-- sums of longs
def sL (f : Nat → Int64) (a : Nat) : Nat → Int64
  | 0 => 0
  | d + 1 => sL f a d + f (a + d)
def sR (f : Nat → Int) (a : Nat) : Nat → Int
  | 0 => 0
  | d + 1 => sR f a d + f (a + d)
theorem sR_1 {f : Nat → Int} {a : Nat} : ∀ d, sR f a (d + 1) = f a + sR f (a + 1) d := by
  intro d
  induction d with
  | zero => show 0 + f (a + 0) = f a + 0; rw [Nat.add_zero]; omega
  | succ d ih =>
    show sR f a (d + 1) + f (a + (d + 1)) = f a + (sR f (a + 1) d + f (a + 1 + d))
    rw [ih, show a + 1 + d = a + (d + 1) by omega]
    omega
theorem sL_co {f g : Nat → Int64} {a : Nat} : ∀ d, (∀ j, a ≤ j → j < a + d → f j = g j) → sL f a d = sL g a d := by
  intro d
  induction d with
  | zero => intro _; rfl
  | succ d ih =>
    intro h
    show sL f a d + f (a + d) = sL g a d + g (a + d)
    rw [ih (fun j h1 h2 => h j h1 (by omega)), h (a + d) (by omega) (by omega)]
theorem sL_int {f : Nat → Int64} {a : Nat} : ∀ d, d ≤ 5 → (∀ j, a ≤ j → j < a + d → -200000000 ≤ (f j).toInt ∧ (f j).toInt ≤ 200000000) → (sL f a d).toInt = sR (fun j => (f j).toInt) a d ∧ -200000000 * (d : Int) ≤ sR (fun j => (f j).toInt) a d ∧ sR (fun j => (f j).toInt) a d ≤ 200000000 * (d : Int) := by
  intro d
  induction d with
  | zero => intro _ _; exact ⟨rfl, by show -200000000 * ((0 : Nat) : Int) ≤ 0; omega, by show (0 : Int) ≤ 200000000 * ((0 : Nat) : Int); omega⟩
  | succ d ih =>
    intro hd h
    obtain ⟨e, l, u⟩ := ih (by omega) (fun j h1 h2 => h j h1 (by omega))
    have b := h (a + d) (by omega) (by omega)
    have ea : (sL f a d + f (a + d)).toInt = sR (fun j => (f j).toInt) a d + (f (a + d)).toInt := a_addL e rfl (by omega) (by omega)
    refine ⟨ea, ?_, ?_⟩
    · show _ ≤ sR (fun j => (f j).toInt) a d + (f (a + d)).toInt; omega
    · show sR (fun j => (f j).toInt) a d + (f (a + d)).toInt ≤ _; omega
