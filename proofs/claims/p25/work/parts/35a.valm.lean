-- VALUES of the reference's own methods
theorem toI_inj {x y : Int32} (h : x.toInt = y.toInt) : x = y := Int32.toInt_inj.mp h
theorem nI_cl {x : Int32} (h : 0 ≤ x.toInt) : x = nI x.toNatClampNeg := by
  have c := clampN h
  have b := a_rng x
  refine toI_inj ?_
  rw [nI_toInt (by omega)]
  omega
def prF (r1 r2 r3 : Nat → Int32) (pl b1 b2 : Int32) : Nat → Int32
  | 0 => pl
  | m + 1 => if r1 m = b1 then (if b2 < r3 m then prF r1 r2 r3 pl b1 b2 m else r2 m) else prF r1 r2 r3 pl b1 b2 m
abbrev PR (z : St) (b1 b2 : Int32) : Int32 := prF (gF z 1) (gF z 2) (gF z 3) (gI z 7) b1 b2 (gI z 3).toNatClampNeg
theorem v_X9_priceOf (b1 b2 : Int32) (z : St) (P : Int32 → Prop) (ht : TM z) (hk : P (PR z b1 b2)) : wp_X9_priceOf b1 b2 z P := by
  have e00 : (0 : Int32).toInt = 0 := rfl
  have f3 : 0 ≤ (gI z 3).toInt ∧ (gI z 3).toInt ≤ 400 := ht.1 3
  have c3 := clampN f3.1
  unfold wp_X9_priceOf
  intro x1 e1 K4 hK4
  have L : ∀ (n : Nat) (v2 v3 : Int32), 0 ≤ v3.toInt → v3.toInt ≤ (gI z 3).toInt → v2 = prF (gF z 1) (gF z 2) (gF z 3) (gI z 7) b1 b2 v3.toNatClampNeg → (400 - v3.toInt).toNat < n → K4 v2 v3 := by
    intro n
    induction n with
    | zero => intro v2 v3 _ _ _ q; omega
    | succ n ih =>
      intro v2 v3 g0 g1 hv gm
      have cv := clampN g0
      refine hK4 v2 v3 ⟨fun c => ?_, fun c => ?_⟩
      · have c' := i_le rfl rfl c
        rw [hv, show v3.toNatClampNeg = (gI z 3).toNatClampNeg by omega]
        exact hk
      · have c' := i_nle rfl rfl c
        have hv4 : vp_in v3 400 := vin rfl g0 (by omega)
        refine ⟨hv4, ?_⟩
        intro K7 hK7
        have h7 : ∀ s6 : Int32, s6 = prF (gF z 1) (gF z 2) (gF z 3) (gI z 7) b1 b2 (v3.toNatClampNeg + 1) → K7 s6 := by
          intro s6 h6
          refine hK7 s6 (fun x8 e8 => ?_)
          have i8 : x8.toInt = v3.toInt + 1 := by rw [e8]; exact a_add rfl rfl (by omega) (by omega)
          have c8 := clampN (x := x8) (by omega)
          exact ih s6 x8 (by omega) (by omega) (by rw [show x8.toNatClampNeg = v3.toNatClampNeg + 1 by omega]; exact h6) (by omega)
        intro K9 hK9
        refine ⟨fun c1 => hK9 (h7 _ ?_), fun c1 => ⟨hv4, fun c2 => hK9 (h7 _ ?_), fun c2 => ⟨hv4, h7 _ ?_⟩⟩⟩
        · unfold prF; rw [if_neg c1]; exact hv
        · unfold prF; rw [if_pos c1, if_pos c2]; exact hv
        · unfold prF; rw [if_pos c1, if_neg c2]
  rw [e1]
  exact L _ _ 0 (by omega) (by omega) rfl (Nat.lt_succ_self _)
def drV (r9 r10 r11 r12 : Nat → Int32) (j h : Int32) : Int32 :=
  if r11 j.toNatClampNeg = 0 then 0 else if 0 ≤ (h - r12 j.toNatClampNeg).toInt ∧ (h - r12 j.toNatClampNeg).toInt ≤ (r9 j.toNatClampNeg).toInt - 1 then r10 ((4 : Int32) * j + (h - r12 j.toNatClampNeg)).toNatClampNeg else 0
theorem v_X9_drawnBy (b1 b2 : Int32) (z : St) (P : Int32 → Prop) (ht : TM z) (h0 : 0 ≤ b1.toInt ∧ b1.toInt ≤ 15) (hk : P (drV (gF z 9) (gF z 10) (gF z 11) (gF z 12) b1 b2)) : wp_X9_drawnBy b1 b2 z P := by
  have e00 : (0 : Int64).toInt = 0 := rfl
  have f9 : 0 ≤ (gF z 9 b1.toNatClampNeg).toInt ∧ (gF z 9 b1.toNatClampNeg).toInt ≤ 4 := ht.2 9 _
  have hv : vp_in b1 16 := vin rfl h0.1 (by omega)
  unfold drV at hk
  unfold wp_X9_drawnBy
  refine ⟨hv, ?_⟩
  intro x1 e1
  rw [← e1] at hk
  refine ⟨hv, fun c => ?_, fun c => ⟨hv, ?_⟩⟩
  · rw [if_pos c] at hk; exact hk
  · rw [if_neg c] at hk
    have i9 : (Int32.toInt64 (gF z 9 b1.toNatClampNeg) - (1 : Int64)).toInt = (gF z 9 b1.toNatClampNeg).toInt - 1 := a_subL (a_wide rfl) (show (1 : Int64).toInt = 1 from rfl) (by omega) (by omega)
    have i1 : (Int32.toInt64 x1).toInt = x1.toInt := a_wide rfl
    refine s_X9_in _ _ _ _ _ ht (fun r4 hr => ?_)
    rw [i9, i1, e00] at hr
    refine ⟨fun c4 => ?_, fun c4 => ?_⟩
    · rcases hr with q | q
      · rw [q.1] at c4; exact absurd c4 (by decide)
      · rw [if_neg (by omega)] at hk; exact hk
    · rcases hr with q | q
      · rw [if_pos q.2] at hk
        exact ⟨vin (a_add (a_mul (show (4 : Int32).toInt = 4 from rfl) rfl (by omega) (by omega)) rfl (by omega) (by omega)) (by omega) (by omega), hk⟩
      · exact absurd q.1 c4
def ldF (r5 r6 r9 r10 r11 r12 : Nat → Int32) (b1 b2 b3 : Int32) : Nat → Int32
  | 0 => r5 ((24 : Int32) * b1 + (b2 - b2 / (24 : Int32) * (24 : Int32))).toNatClampNeg
  | m + 1 => ldF r5 r6 r9 r10 r11 r12 b1 b2 b3 m + (if nI m = b3 then 0 else if r6 m = b1 then drV r9 r10 r11 r12 (nI m) b2 else 0)
abbrev LD (z : St) (b1 b2 b3 : Int32) : Int32 := ldF (gF z 5) (gF z 6) (gF z 9) (gF z 10) (gF z 11) (gF z 12) b1 b2 b3 (gI z 12).toNatClampNeg
theorem v_X9_loadOf (b1 b2 b3 : Int32) (z : St) (P : Int32 → Prop) (ht : TM z) (h0 : 0 ≤ b1.toInt ∧ b1.toInt ≤ 3) (h1 : 0 ≤ b2.toInt ∧ b2.toInt ≤ 167) (hk : P (LD z b1 b2 b3)) : wp_X9_loadOf b1 b2 b3 z P := by
  have e00 : (0 : Int32).toInt = 0 := rfl
  have f12 : 0 ≤ (gI z 12).toInt ∧ (gI z 12).toInt ≤ 16 := ht.1 12
  have c12 := clampN f12.1
  have ir : (b2 - b2 / (24 : Int32) * (24 : Int32)).toInt = b2.toInt % 24 := a_rem rfl h1.1 rfl
  unfold wp_X9_loadOf
  refine ⟨vin (a_add (a_mul (show (24 : Int32).toInt = 24 from rfl) rfl (by omega) (by omega)) ir (by omega) (by omega)) (by omega) (by omega), ?_⟩
  intro x1 e1 K4 hK4
  have L : ∀ (n : Nat) (v2 v3 : Int32), 0 ≤ v3.toInt → v3.toInt ≤ (gI z 12).toInt → v2 = ldF (gF z 5) (gF z 6) (gF z 9) (gF z 10) (gF z 11) (gF z 12) b1 b2 b3 v3.toNatClampNeg → (16 - v3.toInt).toNat < n → K4 v2 v3 := by
    intro n
    induction n with
    | zero => intro v2 v3 _ _ _ q; omega
    | succ n ih =>
      intro v2 v3 g0 g1 hv gm
      have cv := clampN g0
      have ev := nI_cl g0
      refine hK4 v2 v3 ⟨fun c => ?_, fun c => ?_⟩
      · have c' := i_le rfl rfl c
        rw [hv, show v3.toNatClampNeg = (gI z 12).toNatClampNeg by omega]
        exact hk
      · have c' := i_nle rfl rfl c
        intro K8 hK8
        have h8 : ∀ s6 : Int32, s6 = (if nI v3.toNatClampNeg = b3 then 0 else if gF z 6 v3.toNatClampNeg = b1 then drV (gF z 9) (gF z 10) (gF z 11) (gF z 12) (nI v3.toNatClampNeg) b2 else 0) → K8 s6 v2 := by
          intro s6 h6
          refine hK8 s6 v2 (fun x9 e9 x10 e10 => ?_)
          have i10 : x10.toInt = v3.toInt + 1 := by rw [e10]; exact a_add rfl rfl (by omega) (by omega)
          have c10 := clampN (x := x10) (by omega)
          refine ih x9 x10 (by omega) (by omega) ?_ (by omega)
          rw [show x10.toNatClampNeg = v3.toNatClampNeg + 1 by omega, e9, hv, h6]
          rfl
        intro K12 hK12
        refine ⟨fun c1 => hK12 _ (h8 _ ?_), fun c1 => ⟨vin rfl g0 (by omega), fun c2 => hK12 _ (h8 _ ?_), fun c2 => ?_⟩⟩
        · rw [if_pos (by rw [← ev]; exact c1)]
        · rw [if_neg (by rw [← ev]; exact c1), if_neg c2]
        · refine v_X9_drawnBy _ _ _ _ ht (by omega) (h8 _ ?_)
          rw [if_neg (by rw [← ev]; exact c1), if_pos c2, ← ev]
  exact L _ _ 0 (by omega) (by omega) e1 (Nat.lt_succ_self _)
def gV (r4 r26 r27 r32 : Nat → Int32) (s l x load : Int32) : Int32 :=
  if 0 ≤ (l + x).toInt ∧ (l + x).toInt ≤ (r27 s.toNatClampNeg).toInt then (if x = 0 then 1 else if x ≤ 0 then (if load < -(x * r32 s.toNatClampNeg) then 0 else 1) else (if r4 (r26 s.toNatClampNeg).toNatClampNeg < load + x * r32 s.toNatClampNeg then 0 else 1)) else 0
theorem v_X9_goes (b1 b2 b3 b4 b5 : Int32) (z : St) (P : Int32 → Prop) (ht : TM z) (h0 : 0 ≤ b1.toInt ∧ b1.toInt ≤ 5) (hk : P (gV (gF z 4) (gF z 26) (gF z 27) (gF z 32) b1 b2 b3 b5)) : wp_X9_goes b1 b2 b3 b4 b5 z P := by
  have hv : vp_in b1 6 := vin rfl h0.1 (by omega)
  have f26 : 0 ≤ (gF z 26 b1.toNatClampNeg).toInt ∧ (gF z 26 b1.toNatClampNeg).toInt ≤ 3 := ht.2 26 _
  have i1 : (Int32.toInt64 (b2 + b3)).toInt = (b2 + b3).toInt := a_wide rfl
  have i2 : (Int32.toInt64 (gF z 27 b1.toNatClampNeg)).toInt = (gF z 27 b1.toNatClampNeg).toInt := a_wide rfl
  unfold gV at hk
  unfold wp_X9_goes
  refine ⟨hv, ?_⟩
  refine s_X9_in _ _ _ _ _ ht (fun r2 hr => ?_)
  rw [i1, i2, show (0 : Int64).toInt = 0 from rfl] at hr
  refine ⟨fun c2 => ⟨hv, ?_⟩, fun c2 => ?_⟩
  · have q : 0 ≤ (b2 + b3).toInt ∧ (b2 + b3).toInt ≤ (gF z 27 b1.toNatClampNeg).toInt := by
      rcases hr with q | q
      · exact q.2
      · exact absurd q.1 c2
    rw [if_pos q] at hk
    intro x4 e4
    rw [← e4] at hk
    refine ⟨fun c => ?_, fun c => ⟨fun c3 => ⟨fun c4 => ?_, fun c4 => ?_⟩, fun c3 => ⟨hv, vin rfl f26.1 (by omega), fun c4 => ?_, fun c4 => ?_⟩⟩⟩
    · rw [if_pos c] at hk; exact hk
    · rw [if_neg c, if_pos c3, if_pos c4] at hk; exact hk
    · rw [if_neg c, if_pos c3, if_neg c4] at hk; exact hk
    · rw [if_neg c, if_neg c3, if_pos c4] at hk; exact hk
    · rw [if_neg c, if_neg c3, if_neg c4] at hk; exact hk
  · rcases hr with q | q
    · rw [q.1] at c2; exact absurd c2 (by decide)
    · rw [if_neg (by omega)] at hk; exact hk
theorem gV_in {r4 r26 r27 r32 : Nat → Int32} {s l x load : Int32} (h : gV r4 r26 r27 r32 s l x load ≠ 0) : 0 ≤ (l + x).toInt ∧ (l + x).toInt ≤ (r27 s.toNatClampNeg).toInt := by
  unfold gV at h
  by_cases q : 0 ≤ (l + x).toInt ∧ (l + x).toInt ≤ (r27 s.toNatClampNeg).toInt
  · exact q
  · rw [if_neg q] at h; exact absurd rfl h
def aV (r31 : Nat → Int32) (s l : Int32) : Int32 := if r31 s.toNatClampNeg ≤ l then l - r31 s.toNatClampNeg else 0
theorem v_X9_afterwards (b1 b2 : Int32) (z : St) (P : Int32 → Prop) (h0 : 0 ≤ b1.toInt ∧ b1.toInt ≤ 5) (hk : P (aV (gF z 31) b1 b2)) : wp_X9_afterwards b1 b2 z P := by
  have hv : vp_in b1 6 := vin rfl h0.1 (by omega)
  unfold aV at hk
  unfold wp_X9_afterwards
  refine ⟨hv, fun c => ⟨hv, ?_⟩, fun c => ?_⟩
  · rw [if_pos c] at hk; exact hk
  · rw [if_neg c] at hk; exact hk
theorem aV_in {r31 : Nat → Int32} {s l : Int32} (h0 : 0 ≤ (r31 s.toNatClampNeg).toInt ∧ (r31 s.toNatClampNeg).toInt ≤ 3) (h1 : 0 ≤ l.toInt) : 0 ≤ (aV r31 s l).toInt ∧ (aV r31 s l).toInt ≤ l.toInt := by
  unfold aV
  by_cases c : r31 s.toNatClampNeg ≤ l
  · have c' := i_le rfl rfl c
    have b := a_rng l
    rw [if_pos c, a_sub rfl rfl (by omega) (by omega)]; omega
  · rw [if_neg c]; show 0 ≤ (0 : Int32).toInt ∧ (0 : Int32).toInt ≤ _; exact ⟨by decide, h1⟩
theorem lgc_of {x y : Int64} (h : x = y) : lg_cmp x y = 0 := by
  subst h
  unfold lg_cmp
  rw [if_neg (fun q => by have := Int64.lt_iff_toInt_lt.mp q; omega), if_pos rfl]
def RN (z : St) : Prop := ∀ i : Nat, (gF z 28 i).toInt ≤ (gF z 27 i).toInt
theorem RN_same {I F : List Nat} {z z1 : St} (h : RN z) (s : Same I F z z1) (h7 : 27 ∉ F) (h8 : 28 ∉ F) : RN z1 := by
  unfold RN
  rw [s.2 27 h7, s.2 28 h8]
  exact h
theorem RN_store {z z1 z2 : St} {i k a b : Int32} (h : RN z) (e1 : z1 = wR z 27 (upd (gF z 27) i.toNatClampNeg a)) (e2 : z2 = wR z1 28 (upd (gF z1 28) k.toNatClampNeg b)) (hik : k = i) (hw : b.toInt ≤ a.toInt) : RN z2 := by
  subst hik; subst e1; subst e2
  intro j
  have g7 : gF (wR (wR z 27 (upd (gF z 27) k.toNatClampNeg a)) 28 (upd (gF (wR z 27 (upd (gF z 27) k.toNatClampNeg a)) 28) k.toNatClampNeg b)) 27 j = if j = k.toNatClampNeg then a else gF z 27 j := gF_upd (z := z) (k := 27)
  rw [gF_upd, g7]
  by_cases e : j = k.toNatClampNeg
  · rw [if_pos e, if_pos e]; exact hw
  · rw [if_neg e, if_neg e]; exact h j
theorem RN_level {z z1 : St} {i b : Int32} (h : RN z) (e1 : z1 = wR z 28 (upd (gF z 28) i.toNatClampNeg b)) (hw : b.toInt ≤ (gF z 27 i.toNatClampNeg).toInt) : RN z1 := by
  subst e1
  intro j
  rw [gF_upd]
  show _ ≤ (gF z 27 j).toInt
  by_cases e : j = i.toNatClampNeg
  · rw [if_pos e, e]; exact hw
  · rw [if_neg e]; exact h j
